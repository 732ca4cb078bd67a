section
-- ===== PART A: goes FIRST, ahead of the names: the tables' words, and 'selects' of the private methods out of them =====
/-- a private method of a class that the tables say can be made, by its rows of tables_1 -/
def lw_okq (q : MethodName × Nat) : Prop := (q.1.cls ≠ "java/lang/invoke/MethodHandle" ∧ q.1.cls ≠ "java/lang/invoke/VarHandle") ∧ Cond.instantiable q.1.cls q.2 ∈ tables_1 ∧ Cond.privateMethod q.1 ∈ tables_1 ∧ Cond.instanceMethod q.1 ∈ tables_1
theorem lw_p0 : lw_okq (⟨"PartSketch", "settle", "()V"⟩, 6) := ⟨⟨by decide +kernel, by decide +kernel⟩, List.mem_of_getElem? (i := 17) (by decide +kernel), List.mem_of_getElem? (i := 180) (by decide +kernel), List.mem_of_getElem? (i := 181) (by decide +kernel)⟩
theorem lw_p1 : lw_okq (⟨"PartSketch", "admit", "(I)I"⟩, 6) := ⟨⟨by decide +kernel, by decide +kernel⟩, List.mem_of_getElem? (i := 17) (by decide +kernel), List.mem_of_getElem? (i := 188) (by decide +kernel), List.mem_of_getElem? (i := 189) (by decide +kernel)⟩
theorem lw_p2 : lw_okq (⟨"PartSketch", "admitAtHint", "(I)I"⟩, 6) := ⟨⟨by decide +kernel, by decide +kernel⟩, List.mem_of_getElem? (i := 17) (by decide +kernel), List.mem_of_getElem? (i := 203) (by decide +kernel), List.mem_of_getElem? (i := 204) (by decide +kernel)⟩
theorem lw_p3 : lw_okq (⟨"PartSketch", "measure", "()V"⟩, 6) := ⟨⟨by decide +kernel, by decide +kernel⟩, List.mem_of_getElem? (i := 17) (by decide +kernel), List.mem_of_getElem? (i := 216) (by decide +kernel), List.mem_of_getElem? (i := 217) (by decide +kernel)⟩
theorem lw_p4 : lw_okq (⟨"PartSketch$Block", "liesIn", "(LPartSketch$Block;)Z"⟩, 10) := ⟨⟨by decide +kernel, by decide +kernel⟩, List.mem_of_getElem? (i := 91) (by decide +kernel), List.mem_of_getElem? (i := 246) (by decide +kernel), List.mem_of_getElem? (i := 247) (by decide +kernel)⟩
theorem lw_p5 : lw_okq (⟨"PartSketch$Body", "gatherSides", "()I"⟩, 5) := ⟨⟨by decide +kernel, by decide +kernel⟩, List.mem_of_getElem? (i := 84) (by decide +kernel), List.mem_of_getElem? (i := 262) (by decide +kernel), List.mem_of_getElem? (i := 263) (by decide +kernel)⟩
theorem lw_p6 : lw_okq (⟨"PartSketch$Body", "layersTaken", "(II)I"⟩, 5) := ⟨⟨by decide +kernel, by decide +kernel⟩, List.mem_of_getElem? (i := 84) (by decide +kernel), List.mem_of_getElem? (i := 269) (by decide +kernel), List.mem_of_getElem? (i := 270) (by decide +kernel)⟩
theorem lw_p7 : lw_okq (⟨"java/lang/Throwable", "fillInStackTrace", "(I)Ljava/lang/Throwable;"⟩, 6) := ⟨⟨by decide +kernel, by decide +kernel⟩, List.mem_of_getElem? (i := 345) (by decide +kernel), List.mem_of_getElem? (i := 343) (by decide +kernel), List.mem_of_getElem? (i := 344) (by decide +kernel)⟩
theorem lw_p8 : lw_okq (⟨"PartSketch", "moveHint", "(III)V"⟩, 6) := ⟨⟨by decide +kernel, by decide +kernel⟩, List.mem_of_getElem? (i := 17) (by decide +kernel), List.mem_of_getElem? (i := 391) (by decide +kernel), List.mem_of_getElem? (i := 392) (by decide +kernel)⟩
theorem lw_p9 : lw_okq (⟨"PartSketch", "requirePoint", "(I)V"⟩, 6) := ⟨⟨by decide +kernel, by decide +kernel⟩, List.mem_of_getElem? (i := 17) (by decide +kernel), List.mem_of_getElem? (i := 403) (by decide +kernel), List.mem_of_getElem? (i := 404) (by decide +kernel)⟩
theorem lw_p10 : lw_okq (⟨"PartSketch", "requireWish", "(I)V"⟩, 6) := ⟨⟨by decide +kernel, by decide +kernel⟩, List.mem_of_getElem? (i := 17) (by decide +kernel), List.mem_of_getElem? (i := 444) (by decide +kernel), List.mem_of_getElem? (i := 445) (by decide +kernel)⟩
theorem lw_p11 : lw_okq (⟨"PartSketch$WishRows", "closeGap", "([II)V"⟩, 7) := ⟨⟨by decide +kernel, by decide +kernel⟩, List.mem_of_getElem? (i := 47) (by decide +kernel), List.mem_of_getElem? (i := 453) (by decide +kernel), List.mem_of_getElem? (i := 454) (by decide +kernel)⟩
theorem lw_p12 : lw_okq (⟨"PartSketch", "requireSized", "(I)V"⟩, 6) := ⟨⟨by decide +kernel, by decide +kernel⟩, List.mem_of_getElem? (i := 17) (by decide +kernel), List.mem_of_getElem? (i := 467) (by decide +kernel), List.mem_of_getElem? (i := 468) (by decide +kernel)⟩
theorem lw_p13 : lw_okq (⟨"PartSketch", "requirePocket", "(I)V"⟩, 6) := ⟨⟨by decide +kernel, by decide +kernel⟩, List.mem_of_getElem? (i := 17) (by decide +kernel), List.mem_of_getElem? (i := 547) (by decide +kernel), List.mem_of_getElem? (i := 548) (by decide +kernel)⟩
theorem lw_p14 : lw_okq (⟨"PartSketchModel", "refuses", "(I)I"⟩, 29) := ⟨⟨by decide +kernel, by decide +kernel⟩, List.mem_of_getElem? (i := 566) (by decide +kernel), List.mem_of_getElem? (i := 675) (by decide +kernel), List.mem_of_getElem? (i := 676) (by decide +kernel)⟩
theorem lw_p15 : lw_okq (⟨"PartSketchModel", "isPoint", "(I)Z"⟩, 29) := ⟨⟨by decide +kernel, by decide +kernel⟩, List.mem_of_getElem? (i := 566) (by decide +kernel), List.mem_of_getElem? (i := 683) (by decide +kernel), List.mem_of_getElem? (i := 684) (by decide +kernel)⟩
def lw_privs_1 : List (MethodName × Nat) := [(⟨"PartSketch", "settle", "()V"⟩, 6), (⟨"PartSketch", "admit", "(I)I"⟩, 6), (⟨"PartSketch", "admitAtHint", "(I)I"⟩, 6), (⟨"PartSketch", "measure", "()V"⟩, 6), (⟨"PartSketch$Block", "liesIn", "(LPartSketch$Block;)Z"⟩, 10), (⟨"PartSketch$Body", "gatherSides", "()I"⟩, 5), (⟨"PartSketch$Body", "layersTaken", "(II)I"⟩, 5), (⟨"java/lang/Throwable", "fillInStackTrace", "(I)Ljava/lang/Throwable;"⟩, 6), (⟨"PartSketch", "moveHint", "(III)V"⟩, 6), (⟨"PartSketch", "requirePoint", "(I)V"⟩, 6), (⟨"PartSketch", "requireWish", "(I)V"⟩, 6), (⟨"PartSketch$WishRows", "closeGap", "([II)V"⟩, 7), (⟨"PartSketch", "requireSized", "(I)V"⟩, 6), (⟨"PartSketch", "requirePocket", "(I)V"⟩, 6), (⟨"PartSketchModel", "refuses", "(I)I"⟩, 29), (⟨"PartSketchModel", "isPoint", "(I)Z"⟩, 29)]
theorem lw_r1 : ∀ q ∈ lw_privs_1, lw_okq q := List.forall_mem_cons.mpr ⟨lw_p0, List.forall_mem_cons.mpr ⟨lw_p1, List.forall_mem_cons.mpr ⟨lw_p2, List.forall_mem_cons.mpr ⟨lw_p3, List.forall_mem_cons.mpr ⟨lw_p4, List.forall_mem_cons.mpr ⟨lw_p5, List.forall_mem_cons.mpr ⟨lw_p6, List.forall_mem_cons.mpr ⟨lw_p7, List.forall_mem_cons.mpr ⟨lw_p8, List.forall_mem_cons.mpr ⟨lw_p9, List.forall_mem_cons.mpr ⟨lw_p10, List.forall_mem_cons.mpr ⟨lw_p11, List.forall_mem_cons.mpr ⟨lw_p12, List.forall_mem_cons.mpr ⟨lw_p13, List.forall_mem_cons.mpr ⟨lw_p14, List.forall_mem_cons.mpr ⟨lw_p15, fun _ h => absurd h List.not_mem_nil⟩⟩⟩⟩⟩⟩⟩⟩⟩⟩⟩⟩⟩⟩⟩⟩
theorem lw_p16 : lw_okq (⟨"PartSketchModel", "isWish", "(I)Z"⟩, 29) := ⟨⟨by decide +kernel, by decide +kernel⟩, List.mem_of_getElem? (i := 566) (by decide +kernel), List.mem_of_getElem? (i := 695) (by decide +kernel), List.mem_of_getElem? (i := 696) (by decide +kernel)⟩
theorem lw_p17 : lw_okq (⟨"PartSketchModel", "solves", "()V"⟩, 29) := ⟨⟨by decide +kernel, by decide +kernel⟩, List.mem_of_getElem? (i := 566) (by decide +kernel), List.mem_of_getElem? (i := 699) (by decide +kernel), List.mem_of_getElem? (i := 700) (by decide +kernel)⟩
theorem lw_p18 : lw_okq (⟨"PartSketchModel", "holds", "(IIII)I"⟩, 29) := ⟨⟨by decide +kernel, by decide +kernel⟩, List.mem_of_getElem? (i := 566) (by decide +kernel), List.mem_of_getElem? (i := 703) (by decide +kernel), List.mem_of_getElem? (i := 704) (by decide +kernel)⟩
theorem lw_p19 : lw_okq (⟨"PartSketchModel", "ties", "(IIII)V"⟩, 29) := ⟨⟨by decide +kernel, by decide +kernel⟩, List.mem_of_getElem? (i := 566) (by decide +kernel), List.mem_of_getElem? (i := 707) (by decide +kernel), List.mem_of_getElem? (i := 708) (by decide +kernel)⟩
theorem lw_p20 : lw_okq (⟨"PartSketchModel", "placeOf", "(II)I"⟩, 29) := ⟨⟨by decide +kernel, by decide +kernel⟩, List.mem_of_getElem? (i := 566) (by decide +kernel), List.mem_of_getElem? (i := 731) (by decide +kernel), List.mem_of_getElem? (i := 732) (by decide +kernel)⟩
theorem lw_p21 : lw_okq (⟨"PartSketchModel", "builds", "()V"⟩, 29) := ⟨⟨by decide +kernel, by decide +kernel⟩, List.mem_of_getElem? (i := 566) (by decide +kernel), List.mem_of_getElem? (i := 751) (by decide +kernel), List.mem_of_getElem? (i := 752) (by decide +kernel)⟩
theorem lw_p22 : lw_okq (⟨"PartSketchModel", "sides", "(III)V"⟩, 29) := ⟨⟨by decide +kernel, by decide +kernel⟩, List.mem_of_getElem? (i := 566) (by decide +kernel), List.mem_of_getElem? (i := 755) (by decide +kernel), List.mem_of_getElem? (i := 756) (by decide +kernel)⟩
theorem lw_p23 : lw_okq (⟨"PartSketchModel", "isFlat", "(I)Z"⟩, 29) := ⟨⟨by decide +kernel, by decide +kernel⟩, List.mem_of_getElem? (i := 566) (by decide +kernel), List.mem_of_getElem? (i := 759) (by decide +kernel), List.mem_of_getElem? (i := 760) (by decide +kernel)⟩
theorem lw_p24 : lw_okq (⟨"PartSketchModel", "lies", "(II)Z"⟩, 29) := ⟨⟨by decide +kernel, by decide +kernel⟩, List.mem_of_getElem? (i := 566) (by decide +kernel), List.mem_of_getElem? (i := 763) (by decide +kernel), List.mem_of_getElem? (i := 764) (by decide +kernel)⟩
theorem lw_p25 : lw_okq (⟨"PartSketchModel", "whole", "()I"⟩, 29) := ⟨⟨by decide +kernel, by decide +kernel⟩, List.mem_of_getElem? (i := 566) (by decide +kernel), List.mem_of_getElem? (i := 779) (by decide +kernel), List.mem_of_getElem? (i := 780) (by decide +kernel)⟩
theorem lw_p26 : lw_okq (⟨"PartSketchModel", "out", "()I"⟩, 29) := ⟨⟨by decide +kernel, by decide +kernel⟩, List.mem_of_getElem? (i := 566) (by decide +kernel), List.mem_of_getElem? (i := 783) (by decide +kernel), List.mem_of_getElem? (i := 784) (by decide +kernel)⟩
theorem lw_p27 : lw_okq (⟨"PartSketchModel", "isOut", "(III)Z"⟩, 29) := ⟨⟨by decide +kernel, by decide +kernel⟩, List.mem_of_getElem? (i := 566) (by decide +kernel), List.mem_of_getElem? (i := 790) (by decide +kernel), List.mem_of_getElem? (i := 791) (by decide +kernel)⟩
def lw_privs_2 : List (MethodName × Nat) := [(⟨"PartSketchModel", "isWish", "(I)Z"⟩, 29), (⟨"PartSketchModel", "solves", "()V"⟩, 29), (⟨"PartSketchModel", "holds", "(IIII)I"⟩, 29), (⟨"PartSketchModel", "ties", "(IIII)V"⟩, 29), (⟨"PartSketchModel", "placeOf", "(II)I"⟩, 29), (⟨"PartSketchModel", "builds", "()V"⟩, 29), (⟨"PartSketchModel", "sides", "(III)V"⟩, 29), (⟨"PartSketchModel", "isFlat", "(I)Z"⟩, 29), (⟨"PartSketchModel", "lies", "(II)Z"⟩, 29), (⟨"PartSketchModel", "whole", "()I"⟩, 29), (⟨"PartSketchModel", "out", "()I"⟩, 29), (⟨"PartSketchModel", "isOut", "(III)Z"⟩, 29)]
theorem lw_r2 : ∀ q ∈ lw_privs_2, lw_okq q := List.forall_mem_cons.mpr ⟨lw_p16, List.forall_mem_cons.mpr ⟨lw_p17, List.forall_mem_cons.mpr ⟨lw_p18, List.forall_mem_cons.mpr ⟨lw_p19, List.forall_mem_cons.mpr ⟨lw_p20, List.forall_mem_cons.mpr ⟨lw_p21, List.forall_mem_cons.mpr ⟨lw_p22, List.forall_mem_cons.mpr ⟨lw_p23, List.forall_mem_cons.mpr ⟨lw_p24, List.forall_mem_cons.mpr ⟨lw_p25, List.forall_mem_cons.mpr ⟨lw_p26, List.forall_mem_cons.mpr ⟨lw_p27, fun _ h => absurd h List.not_mem_nil⟩⟩⟩⟩⟩⟩⟩⟩⟩⟩⟩⟩
def lw_privs : List (MethodName × Nat) := lw_privs_1 ++ (lw_privs_2)
def lw_tbl : List Cond := k2_sels lw_privs ++ tables_1
theorem lw_privs_ok : ∀ q ∈ lw_privs, lw_okq q := by
  show ∀ q ∈ lw_privs_1 ++ (lw_privs_2), lw_okq q
  exact List.forall_mem_append.mpr ⟨lw_r1, lw_r2⟩
-- ===== end of PART A; then your names; then what follows =====
end
section
/-! ===== BEGIN words of one list among another's, by their places ===== -/
theorem goodIn_r {big : List Cond} (ws : List Cond) (ps : List Nat) (hp : ws = ps.filterMap (fun i => big[i]?)) (h : ws.all goodWord = true) : GoodIn big ws := by
  intro w hw
  have h1 := List.all_eq_true.mp h w hw
  rw [hp] at hw
  obtain ⟨i, -, hi⟩ := List.mem_filterMap.mp hw
  have hm : w ∈ big := by first | exact List.mem_of_getElem? hi | exact List.getElem?_mem hi
  exact ⟨hm, good_of_word h1⟩
theorem goodIn_app {big a b : List Cond} (ha : GoodIn big a) (hb : GoodIn big b) : GoodIn big (a ++ b) := fun w h => (List.mem_append.mp h).elim (ha w) (hb w)
theorem goodIn_ca {big a b : List Cond} {c : Cond} (ha : GoodIn big (c :: a)) (hb : GoodIn big b) : GoodIn big (c :: (a ++ b)) := fun w h => (List.mem_cons.mp h).elim (fun e => ha w (List.mem_cons.mpr (Or.inl e))) (fun h => (List.mem_append.mp h).elim (fun h => ha w (List.mem_cons.mpr (Or.inr h))) (hb w))
theorem goodIn_sub {big ws : List Cond} (hm : ∀ w ∈ ws, w ∈ big) (h : ws.all goodWord = true) : GoodIn big ws := fun w hw => ⟨hm w hw, good_of_word (List.all_eq_true.mp h w hw)⟩
/-! ===== END ===== -/

/-! ===== BEGIN new T[n][m]: the outer array a place, the inner ones among the pooled ===== -/
/-- f, but v at every address of l -/
def vr_up {α : Type} (f : Nat → α) (l : List Nat) (v : α) : Nat → α := fun a => if a ∈ l then v else f a
theorem vr_up_in {α : Type} {f : Nat → α} {l : List Nat} {v : α} {a : Nat} (h : a ∈ l) : vr_up f l v a = v := if_pos h
theorem vr_up_ne {α : Type} {f : Nat → α} {l : List Nat} {v : α} {a : Nat} (h : a ∉ l) : vr_up f l v a = f a := if_neg h
theorem vr_rows {L l : List Nat} {f : Nat → va_E} {e : va_E} (h : ∀ a, a ∈ l → a ∉ L) : va_pl L f ++ l.map (fun a => (a, e)) = va_pl (L ++ l) (vr_up f l e) := by
  unfold va_pl
  rw [List.map_append]
  congr 1
  · apply List.map_congr_left
    intro a ha
    rw [vr_up_ne (fun q => h a q ha)]
  · apply List.map_congr_left
    intro a ha
    rw [vr_up_in ha]
theorem vr_lay {X rows : va_W} {x : Nat × va_E} {pl : va_W} {D : va_G} {cl : List vw_C} {H : Heap} (hP : va_P D cl (((X ++ pl) ++ [x]) ++ rows) H) : va_P D cl ((X ++ [x]) ++ (pl ++ rows)) H := by
  rw [List.append_assoc (X ++ pl)] at hP
  have h := va_P.swap hP
  rw [← List.append_assoc X] at h
  have h2 := va_P.swap h
  rw [List.append_assoc (X ++ [x])] at h2
  exact h2
theorem vr_layD {X rows : va_W} {x : Nat × va_E} {pl : va_W} {A : Nat → Prop} (hD : va_D A (((X ++ pl) ++ [x]) ++ rows)) : va_D A ((X ++ [x]) ++ (pl ++ rows)) := by
  rw [List.append_assoc (X ++ pl)] at hD
  have h := va_D.swap hD
  rw [← List.append_assoc X] at h
  have h2 := va_D.swap h
  rw [List.append_assoc (X ++ [x])] at h2
  exact h2
theorem vr_outer (c : ClassId) (N h0 : Nat) : ∀ i : Nat, Jvm.Free.Multi.outerC c N h0 i = arrV c N (fun j => va_rf (if j < i then some (h0 + 1 + j) else none))
  | 0 => by
    show ({ cls := c, slots := Array.replicate N .null, vm := .none } : Cell) = _
    rw [arrV_new]
    refine congrArg (arrV c N) (funext fun j => ?_)
    simp [va_rf]
  | i + 1 => by
    show (Jvm.Free.Multi.outerC c N h0 i).setSlot i (.ref (h0 + 1 + i)) = _
    rw [vr_outer c N h0 i, arrV_store]
    refine congrArg (arrV c N) (funext fun j => ?_)
    by_cases e : j = i
    · subst e
      simp [updV, va_rf]
    · by_cases h : j < i
      · simp [updV, e, h, Nat.lt_succ_of_lt h]
      · simp [updV, e, h, show ¬ j < i + 1 by omega]
section VGM
variable {p : Program} {l : Launch} {e : Env} {R : Room} {s : State} {m : MethodId} {args : Array Value} {below : List Frame} {meth : Method} {c : Code} {H : Heap} {locs : List Loc} {cells slots : Nat} {Q : State → Prop}
variable {cc : ByteArray} {pc : Nat} {ls : Array Slot} {rest : List Value} {D : va_G} {cl : List vw_C} {A : Nat → Prop} {a : Nat} {tys : List (ClassId × FieldType)} {ws : va_W} {H0 : Heap}
theorem va_mna {X : va_W} {L : List Nat} {f : Nat → va_E} {cc : ByteArray} (hexec : p.tables.exec = Jvm.exec) (hb : c.code = cc) {own : String} {index : Nat} {ty : FieldType} {cy : ClassId} (hown : s.vm.findClass own = some m.cls) (hclink : (Cond.classLink own index ("[" ++ (FieldType.array ty).toString)).before args s = true) (hover : (Cond.arrayOver (.array ty)).before args s = true) (harr : (Cond.arrayClass ty).before args s = true) (hcy : s.vm.findClass (FieldType.array ty).toString = some cy)
    (hK : va_K D cl tys s) (hP : va_P D cl (X ++ va_pl L f) H) (hD : va_D A (X ++ va_pl L f)) (hS : va_S A H0 H locs) (hA : ∀ q, H0.size ≤ q → A q) {n k : Int32} {N' K' : Nat} {z : vp_A} (hn : ¬ n < 0) (hk : ¬ k < 0) (hN : n.toNatClampNeg = N') (hM : k.toNatClampNeg = K')
    (hb1 : N' * 4 ≤ 536870912) (hb2 : K' * componentBytes ty ≤ 536870912) (hb3 : K' ≤ 536870912) (hdf : fits ty (defaultValue ty) = true) (hdd : (defaultValue ty).isDefault = true) (hcells : cells + (1 + N') ≤ R.cells) (hslots : slots + (N' + N' * K') ≤ R.slots) (hz : ∀ c : ClassId, Jvm.Free.Multi.innerC c K' (defaultValue ty) = vp_cell c z) (hdg : decode cc pc = .ok (.multianewarray index 2, 4))
    (kk : ∀ (q : Nat) (r : Nat → Nat) (cA : ClassId) (H1 : Heap), (∀ i j : Nat, i < N' → j < N' → r i = r j → i = j) → (∀ i : Nat, i < N' → r i ∉ L) → va_K D cl (tys ++ [(cA, .array ty)]) s →
      va_P D cl ((X ++ [(q, .inl (cA, N', .inr (.inr (.inr (.inr (fun i => if i < N' then some (r i) else none))))))]) ++ va_pl (L ++ (List.range N').map r) (vr_up f ((List.range N').map r) (.inl (cy, z)))) H1 → va_D A ((X ++ [(q, .inl (cA, N', .inr (.inr (.inr (.inr (fun i => if i < N' then some (r i) else none))))))]) ++ va_pl (L ++ (List.range N').map r) (vr_up f ((List.range N').map r) (.inl (cy, z)))) → va_S A H0 H1 locs →
      W p l e R s m args below meth c H1 locs (cells + 1 + N') (slots + N' + N' * K') Q (F0 m (pc + 4) ls (.ref q :: rest))) : W p l e R s m args below meth c H locs cells slots Q (F0 m pc ls (.int k :: .int n :: rest)) := by
  subst hN
  subst hM
  intro T hT Xs
  obtain ⟨vm₁, cA, comp, -, fA, fC, hO, -, X', step⟩ := Xs.multianewarray2F hexec hown hclink hover harr (g := F0 m pc ls (.int k :: .int n :: rest)) rfl (by rw [hb]; exact hdg) rfl hn hk hb1 hb2 hb3 hdf hdd hcells hslots
  have ec : some cy = some comp := hcy.symm.trans fC
  cases ec
  generalize hF : Jvm.Free.Multi.fill (T.setVm vm₁) cA cy n.toNatClampNeg k.toNatClampNeg (defaultValue ty) n.toNatClampNeg = F at X' step
  have hTh : (T.setVm vm₁).heap = H := hT
  obtain ⟨f1, f2, -, -⟩ := Jvm.Free.Multi.fill_facts (T.setVm vm₁) cA cy n.toNatClampNeg k.toNatClampNeg (defaultValue ty) n.toNatClampNeg
  rw [hF, hTh] at f1 f2
  have hold : ∀ x : Nat, x < H.size → F.heap[x]? = H[x]? := fun x hx => by
    have := Jvm.Free.Multi.fill_old (T.setVm vm₁) cA cy n.toNatClampNeg k.toNatClampNeg (defaultValue ty) (a := x) (by rw [hTh]; exact hx) n.toNatClampNeg
    rw [hF, hTh] at this
    exact this
  have hrow : ∀ j : Nat, j < n.toNatClampNeg → F.heap[H.size + 1 + j]? = some (vp_cell cy z) := fun j hj => by
    have := Jvm.Free.Multi.fill_inner (T.setVm vm₁) cA cy n.toNatClampNeg k.toNatClampNeg (defaultValue ty) n.toNatClampNeg j hj
    rw [hF, hTh, hz] at this
    exact this
  have hout : Jvm.Free.Multi.outerC cA n.toNatClampNeg H.size n.toNatClampNeg = vp_cell cA (n.toNatClampNeg, .inr (.inr (.inr (.inr (fun i => if i < n.toNatClampNeg then some (H.size + 1 + i) else none))))) := by
    rw [vp_cell_q]
    exact vr_outer cA n.toNatClampNeg H.size n.toNatClampNeg
  rw [hout] at f2
  have hlt : ∀ a, a ∈ L → a < H.size := fun a ha => by
    obtain ⟨k9, hk9⟩ := va_pl_get (X := X) (f := f) ha
    exact (hP k9 _ hk9).lt
  have hnl : ∀ i : Nat, i < n.toNatClampNeg → H.size + 1 + i ∉ L := fun i _ h => by
    have := hlt _ h
    omega
  have hnm : ∀ a, a ∈ (List.range n.toNatClampNeg).map (fun i => H.size + 1 + i) → a ∉ L := fun a ha h => by
    obtain ⟨i, -, rfl⟩ := List.mem_map.mp ha
    have := hlt _ h
    omega
  have hP0 : va_P D cl (X ++ va_pl L f) F.heap := hP.kept (fun k9 x hx => hold x.1 ((hP k9 x hx).lt))
  have hP1 : va_P D cl ((X ++ va_pl L f) ++ [(H.size, .inl (cA, n.toNatClampNeg, .inr (.inr (.inr (.inr (fun i => if i < n.toNatClampNeg then some (H.size + 1 + i) else none))))))]) F.heap := hP0.app (fun k9 x hx => by
    have h0 : k9 < 1 := (List.getElem?_eq_some_iff.mp hx).1
    rw [show k9 = 0 by omega] at hx
    cases hx
    exact f2)
  have hP2 : va_P D cl (((X ++ va_pl L f) ++ [(H.size, .inl (cA, n.toNatClampNeg, .inr (.inr (.inr (.inr (fun i => if i < n.toNatClampNeg then some (H.size + 1 + i) else none))))))]) ++ ((List.range n.toNatClampNeg).map (fun i => H.size + 1 + i)).map (fun a => (a, .inl (cy, z)))) F.heap := hP1.app (fun k9 x hx => by
    obtain ⟨a, ha, rfl⟩ := List.mem_map.mp (List.mem_of_getElem? hx)
    obtain ⟨i, hi, rfl⟩ := List.mem_map.mp ha
    exact hrow i (List.mem_range.mp hi))
  have hD2 : va_D A (((X ++ va_pl L f) ++ [(H.size, .inl (cA, n.toNatClampNeg, .inr (.inr (.inr (.inr (fun i => if i < n.toNatClampNeg then some (H.size + 1 + i) else none))))))]) ++ ((List.range n.toNatClampNeg).map (fun i => H.size + 1 + i)).map (fun a => (a, .inl (cy, z)))) := by
    have hD1 := hD.push (e := .inl (cA, n.toNatClampNeg, .inr (.inr (.inr (.inr (fun i => if i < n.toNatClampNeg then some (H.size + 1 + i) else none)))))) hP rfl (hA _ hS.1)
    generalize hW1 : (X ++ va_pl L f) ++ [(H.size, .inl (cA, n.toNatClampNeg, .inr (.inr (.inr (.inr (fun i => if i < n.toNatClampNeg then some (H.size + 1 + i) else none))))))] = W1 at hD1 hP1 ⊢
    have hle : ∀ (k9 : Nat) (x : Nat × va_E), W1[k9]? = some x → x.1 ≤ H.size := fun k9 x hx => by
      rw [← hW1] at hx
      by_cases hl : k9 < (X ++ va_pl L f).length
      · rw [List.getElem?_append_left hl] at hx
        exact Nat.le_of_lt ((hP k9 x hx).lt)
      · rw [List.getElem?_append_right (by omega)] at hx
        have h0 : k9 - (X ++ va_pl L f).length < 1 := (List.getElem?_eq_some_iff.mp hx).1
        rw [show k9 - (X ++ va_pl L f).length = 0 by omega] at hx
        cases hx
        exact Nat.le_refl _
    have hr : ∀ (k9 : Nat) (x : Nat × va_E), (((List.range n.toNatClampNeg).map (fun i => H.size + 1 + i)).map (fun a => ((a, .inl (cy, z)) : Nat × va_E)))[k9]? = some x → x.1 = H.size + 1 + k9 := fun k9 x hx => by
      rw [List.getElem?_map, List.getElem?_map] at hx
      by_cases h9 : k9 < n.toNatClampNeg
      · rw [List.getElem?_range h9] at hx
        cases hx
        rfl
      · have hn0 : (List.range n.toNatClampNeg)[k9]? = none := List.getElem?_eq_none (by rw [List.length_range]; omega)
        rw [hn0] at hx
        cases hx
    refine ⟨fun i j x y hi hj hxy => ?_, fun k9 x hx => ?_⟩
    · by_cases h1 : i < W1.length <;> by_cases h2 : j < W1.length
      · rw [List.getElem?_append_left h1] at hi
        rw [List.getElem?_append_left h2] at hj
        exact hD1.1 i j x y hi hj hxy
      · rw [List.getElem?_append_left h1] at hi
        rw [List.getElem?_append_right (by omega)] at hj
        have := hle _ _ hi
        have := hr _ _ hj
        omega
      · rw [List.getElem?_append_right (by omega)] at hi
        rw [List.getElem?_append_left h2] at hj
        have := hle _ _ hj
        have := hr _ _ hi
        omega
      · rw [List.getElem?_append_right (by omega)] at hi hj
        have := hr _ _ hi
        have := hr _ _ hj
        omega
    · by_cases h1 : k9 < W1.length
      · rw [List.getElem?_append_left h1] at hx
        exact hD1.2 k9 x hx
      · rw [List.getElem?_append_right (by omega)] at hx
        have := hr _ _ hx
        exact hA _ (by have := hS.1; omega)
  have hAr : ArrOfT s cA (.array ty) := fun N9 z9 => by
    obtain ⟨-, k9, hk9, cm9, hkk9⟩ := (hO 0 0 0).1
    exact ⟨(fun q hq => by cases hq), k9, hk9, cm9, hkk9⟩
  have hK2 : va_K D cl (tys ++ [(cA, .array ty)]) s := ⟨hK.1, fun k9 x hx => by
    by_cases hl : k9 < tys.length
    · rw [List.getElem?_append_left hl] at hx
      exact hK.2 k9 x hx
    · rw [List.getElem?_append_right (by omega)] at hx
      have h0 : k9 - tys.length < 1 := (List.getElem?_eq_some_iff.mp hx).1
      rw [show k9 - tys.length = 0 by omega] at hx
      cases hx
      exact ⟨hAr, fA⟩⟩
  obtain ⟨t, a1, b1⟩ := kk H.size (fun i => H.size + 1 + i) cA F.heap (fun i j _ _ h => by have h9 : H.size + 1 + i = H.size + 1 + j := h; omega) hnl hK2 (by rw [← vr_rows hnm]; exact vr_lay hP2) (by rw [← vr_rows hnm]; exact vr_layD hD2) ⟨by rw [f1]; have := hS.1; omega, fun x h1 h2 => (hold x (Nat.lt_of_lt_of_le h1 hS.1)).trans (hS.2.1 x h1 h2), hS.2.2⟩ F rfl X'
  refine ⟨t, step t ?_, b1⟩
  have e : T.heap.size = H.size := by rw [hT]
  rw [e]
  exact a1
end VGM
/-! ===== END ===== -/

/-! ===== BEGIN exceptions that leave a method, and their catching by the caller (launches without stack traces) ===== -/
section VXA
/-! The laws vx_back, vx_callV, vx_callS, vx_callSW, vx_throw0, vx_throwS follow proofs of the library, with one case more: JvmDerived/Free/Laws.lean (Back.of_free), Shelf42/LK1.lean (callV, callS), Shelf/KitTraced.lean (throwNew0V, throwNewS). -/
/-- where a method has thrown q: the class by its name, the cell, what was written, the world -/
def vx_T (XC : String → State → State → Prop) (st : State) (q : Addr) (t : State) (mc ms : Nat) (free : Addr → Prop) : Prop :=
  ∃ (E : String) (ce : Cell) (L : List Loc), XC E st t ∧ t.heap[q]? = some ce ∧ ce.vm = .none ∧ st.vm.findClass E = some ce.cls ∧ st.WarmedH t.vm ∧ st.sameButNew ({ t with vm := st.vm } : State) L mc ms ∧ ∀ z ∈ L, free z.base
def vx_Q (Qc : Array Value → State → Outcome → State → Prop) (XC : String → State → State → Prop) (mc ms : Nat) (free : Addr → Prop) : Array Value → State → Outcome → State → Prop := fun a st o t =>
  (Qc a st o t ∧ ∃ L, FrameEnd st o t L mc ms ∧ ∀ q ∈ L, free q.base) ∨ ∃ q, o = .threw q ∧ vx_T XC st q t mc ms free
/-- a callee that returns or throws -/
def vx_Met (l : Launch) (y : MethodName) (ws : List Cond) (rm : Room) (Pc : Array Value → State → Prop) (Qc : Array Value → State → Outcome → State → Prop) (XC : String → State → State → Prop) (mc ms : Nat) (free : Addr → Prop) : Prop :=
  MetFree l y (headSpec ws rm) Pc (fun _ _ _ _ _ => True) (vx_Q Qc XC mc ms free)
def vx_Post (XC : String → State → State → Prop) (mc ms : Nat) (free : Addr → Prop) : Pt → Array Value → Addr → Pt → Prop := fun A a q B =>
  ∃ (g : JFrame) (mk : MethodId) (t : State) (L : List Loc) (E : String) (ce : Cell), B.U.heap = t.heap ∧ B.U.vm = t.vm ∧ XC E (A.U.calling g mk a) t ∧ t.heap[q]? = some ce ∧ ce.vm = .none ∧ A.U.vm.findClass E = some ce.cls ∧ B.locs = A.locs ++ L ∧ (∀ z ∈ L, free z.base) ∧ B.cells = A.cells + mc ∧ B.slots = A.slots + ms
def vx_Back (l : Launch) (R : Room) (p : Program) (e : Env) (below : List Frame) (s : State) (sargs : Array Value) (y : MethodName) (len W9 : Nat)
    (Pre : Pt → Array Value → Prop) (Post : Pt → Array Value → Option Value → Pt → Prop) (PostX : Pt → Array Value → Addr → Pt → Prop) : Prop :=
  ∀ (m : MethodId) (meth : Method) (c : Code) (A : Pt) (g : JFrame) (ig : Instr) (mk : MethodId) (a : Array Value),
    Stand p l e R s m sargs below meth c A.U A.locs A.cells A.slots → g.method = m → g.locals.size = c.maxLocals → decode c.code g.pc = .ok (ig, len) →
    2 * g.monitorRoom + (g.stack.map fun v => v.category).sum ≤ W9 → A.U.methodNamed? y = some mk → Pre A a →
    (∃ (v : Option Value) (B : Pt), Stand p l e R s m sargs below meth c B.U B.locs B.cells B.slots ∧ Post A a v B ∧
      Steps p.tables e below (doInvoke e (A.U.setTop g) [] mk a).1 (B.U.setTop { g with pc := g.pc + len, stack := v.toList ++ g.stack })) ∨
    (∃ (q : Addr) (B : Pt), Stand p l e R s m sargs below meth c B.U B.locs B.cells B.slots ∧ PostX A a q B ∧
      Steps p.tables e below (doInvoke e (A.U.setTop g) [] mk a).1 ((B.U.setTop g).pushFrame (.throwing q)))
section Payer
variable {l : Launch} {R : Room} {p : Program} {e : Env} {below : List Frame} {s : State} {sargs : Array Value} {y : MethodName} {len W9 : Nat}
theorem vx_back {ws : List Cond} {rm : Room} {Pc : Array Value → State → Prop} {Qc : Array Value → State → Outcome → State → Prop} {XC : String → State → State → Prop} {mc ms : Nat} {free : Addr → Prop} {bytes : ByteArray} {maxL : Nat} {ret : Option FieldType}
    (hM : vx_Met l y ws rm Pc Qc XC mc ms free) (hblind : FrameBlind Pc) (hrc : rm.cells = mc) (hrs : rm.slots = ms)
    (hframes : rm.frames + 1 ≤ R.frames) (hlocals : W9 + (maxL + 11) + rm.locals ≤ R.locals)
    (hws : ∀ w ∈ ws, ∀ a' U, s.WarmedH U.vm → w.before a' U = true) (hcode : Cond.code y bytes maxL ret ∈ ws) (hinit : ∀ a' U, s.WarmedH U.vm → (Cond.initialized y.cls).before a' U = true) :
    vx_Back l R p e below s sargs y len W9 (PreOf R mc ms Pc) (PostOf Qc mc ms free) (vx_Post XC mc ms free) := by
  intro m meth c A g ig mk a X hg hsize hdg hW hn hp
  have h1 : (headSpec ws rm).pre.before a A.U = true := atoms_intro fun w hw => hws w hw _ _ X.warmed
  have h2 : (Cond.code y bytes maxL ret).before a A.U = true := hws _ hcode _ _ X.warmed
  have h3 : (Cond.initialized y.cls).before a A.U = true := hinit _ _ X.warmed
  have h4 : A.cells + (headSpec ws rm).room.cells ≤ R.cells := by rw [show (headSpec ws rm).room.cells = mc from hrc]; exact hp.1
  have h5 : A.slots + (headSpec ws rm).room.slots ≤ R.slots := by rw [show (headSpec ws rm).room.slots = ms from hrs]; exact hp.2.1
  have hPc : Pc a (A.U.calling g mk a) := hblind _ _ _ _ hp.2.2
  obtain ⟨U, Ls, c0, s0⟩ := A
  dsimp only [Pt.U, Pt.locs, Pt.cells, Pt.slots] at h1 h2 h3 h4 h5 X hn hPc ⊢
  obtain ⟨methY, cY, hmY, hcY, -, hlY, -, -, -, -⟩ := Cond.code_spec hn h2
  obtain ⟨kY, hkY, -⟩ := className_of_methodNamed hn
  have hinitY : kY.init = .initialized := Cond.initialized_spec (findClass_of_methodNamed hn) hkY h3
  have h : At U g.method c below := by rw [hg]; exact X.here
  have hlocals9 : W9 + (maxL + 11) + (headSpec ws rm).room.locals ≤ R.locals := hlocals
  have happ : (headSpec ws rm).appliesLoose y e.platform (U.calling g mk a) = true :=
    Spec.appliesLoose_calling (g := g) h hdg hn hkY hinitY
      (X.room_calling (g := g) (R' := (headSpec ws rm).room) hsize hmY hcY hframes (by rw [hlY]; omega) h4 h5) h1
  obtain ⟨mid, hmid⟩ := h.above
  have hfr : (U.setTop g).frames = (.java g :: mid) ++ below := by rw [State.frames_setTop' g h.top, hmid]; rfl
  obtain ⟨o, s₂, hsteps, -, hend, hq⟩ := Steps.callFree hM p X.admits X.cas X.clock (acts := []) hfr happ hPc trivial
  have hq' : vx_Q Qc XC mc ms free a (U.calling g mk a) o s₂ := hq
  rw [State.frames_setTop' g h.top] at hend
  obtain ⟨g₀, hg0⟩ := Option.isSome_iff_exists.mp h.top
  obtain ⟨r, hr⟩ := State.topJava?_eq_some.mp hg0
  have hr' : (({ U with heap := s₂.heap, slotsUsed := s₂.slotsUsed } : State).setVm s₂.vm).frames = .java g₀ :: r := hr
  rcases hq' with ⟨hqc, L, hfe, hL⟩ | ⟨q, rfl, E, ce, L, hx, hce, hcv, hcl, hW₂, hsm, hL⟩
  · obtain ⟨⟨v, rfl⟩, hW₂, e2, q2, q3, q4, q5, q6⟩ := id hfe
    have e3 : s₂ = ({ (U.calling g mk a).setFrames s₂.frames with heap := s₂.heap, slotsUsed := s₂.slotsUsed } : State).setVm s₂.vm := by
      have : s₂ = ({ s₂ with vm := (U.calling g mk a).vm } : State).setVm s₂.vm := rfl
      rw [e2] at this
      exact this
    obtain ⟨c₂, i₂, len₂, hc₂, hd₂, hf₂⟩ := hend
    have hW' : U.WarmedH s₂.vm := hW₂
    have hcc : c₂ = c := by
      have h1 : s₂.code? g.method = U.code? g.method := by
        rw [State.code?_eq, State.code?_eq, hW'.alike.method?]
      exact Option.some.inj (hc₂.symm.trans (h1.trans h.code))
    subst hcc
    have hlen : len₂ = len := by rw [hdg] at hd₂; cases hd₂; rfl
    subst hlen
    have hs₂ : s₂ = (({ U with heap := s₂.heap, slotsUsed := s₂.slotsUsed } : State).setVm s₂.vm).setTop { g with pc := g.pc + len₂, stack := v.toList ++ g.stack } := by
      refine e3.trans ?_
      rw [hf₂, State.calling_eq h.top, State.setFrames_setFrames, State.setTop_of_frames _ hr', hr]
      rfl
    have hsame : U.sameButNew ({ U with heap := s₂.heap, slotsUsed := s₂.slotsUsed } : State) L mc ms := by
      refine ⟨?_, q2, q3, q4, q5, q6⟩
      obtain ⟨t, ht, -⟩ := State.frames_cons hr
      show ({ U with heap := s₂.heap, slotsUsed := s₂.slotsUsed } : State) = { U.setFrames U.frames with heap := s₂.heap, slotsUsed := s₂.slotsUsed }
      rw [State.setFrames_self ht]
    subst hg
    refine Or.inl ⟨v, ⟨(({ U with heap := s₂.heap, slotsUsed := s₂.slotsUsed } : State).setVm s₂.vm), Ls ++ L, c0 + mc, s0 + ms⟩,
      ⟨X.admits, X.cas, X.clock, X.frames, X.room, X.hears, X.method, X.code, (X.here.setHeapUsed s₂.heap s₂.slotsUsed).setVm hW'.alike, X.tail, State.WarmedH.trans X.warmed hW', X.limits, X.bytes, X.same.trans (hsame.setVm s.vm)⟩,
      ⟨g, mk, s₂, L, rfl, rfl, hqc, rfl, hL, rfl, rfl⟩, ?_⟩
    show Steps p.tables e below _ ((({ U with heap := s₂.heap, slotsUsed := s₂.slotsUsed } : State).setVm s₂.vm).setTop { g with pc := g.pc + len₂, stack := v.toList ++ g.stack })
    rw [← hs₂]
    exact hsteps
  · obtain ⟨e2, q2, q3, q4, q5, q6⟩ := id hsm
    have e3 : s₂ = ({ (U.calling g mk a).setFrames s₂.frames with heap := s₂.heap, slotsUsed := s₂.slotsUsed } : State).setVm s₂.vm := by
      have : s₂ = ({ s₂ with vm := (U.calling g mk a).vm } : State).setVm s₂.vm := rfl
      rw [e2] at this
      exact this
    have hf₂ : s₂.frames = .throwing q :: .java g :: U.frames.tail := hend
    have hW' : U.WarmedH s₂.vm := hW₂
    have hs₂ : s₂ = ((({ U with heap := s₂.heap, slotsUsed := s₂.slotsUsed } : State).setVm s₂.vm).setTop g).pushFrame (.throwing q) := by
      refine e3.trans ?_
      rw [hf₂, State.calling_eq h.top, State.setFrames_setFrames, State.pushFrame, State.frames_setTop _ hr', State.setTop_of_frames _ hr', State.setFrames_setFrames, hr]
      rfl
    have hsame : U.sameButNew ({ U with heap := s₂.heap, slotsUsed := s₂.slotsUsed } : State) L mc ms := by
      refine ⟨?_, q2, q3, q4, q5, q6⟩
      obtain ⟨t, ht, -⟩ := State.frames_cons hr
      show ({ U with heap := s₂.heap, slotsUsed := s₂.slotsUsed } : State) = { U.setFrames U.frames with heap := s₂.heap, slotsUsed := s₂.slotsUsed }
      rw [State.setFrames_self ht]
    subst hg
    refine Or.inr ⟨q, ⟨(({ U with heap := s₂.heap, slotsUsed := s₂.slotsUsed } : State).setVm s₂.vm), Ls ++ L, c0 + mc, s0 + ms⟩,
      ⟨X.admits, X.cas, X.clock, X.frames, X.room, X.hears, X.method, X.code, (X.here.setHeapUsed s₂.heap s₂.slotsUsed).setVm hW'.alike, X.tail, State.WarmedH.trans X.warmed hW', X.limits, X.bytes, X.same.trans (hsame.setVm s.vm)⟩,
      ⟨g, mk, s₂, L, E, ce, rfl, rfl, hx, hce, hcv, hcl, rfl, hL, rfl, rfl⟩, ?_⟩
    show Steps p.tables e below _ (((({ U with heap := s₂.heap, slotsUsed := s₂.slotsUsed } : State).setVm s₂.vm).setTop g).pushFrame (.throwing q))
    rw [← hs₂]
    exact hsteps
end Payer
section Calls
variable {p : Program} {l : Launch} {e : Env} {R : Room} {s : State} {m : MethodId} {args : Array Value} {below : List Frame} {meth : Method} {c : Code} {T : State} {locs : List Loc} {cells slots : Nat}
theorem vx_callV (X : Stand p l e R s m args below meth c T locs cells slots) (hexec : p.tables.exec = Jvm.exec) {own C : String} {index : Nat} {y : MethodName} {bytes : ByteArray} {maxL : Nat} {ret : Option FieldType}
    (hown : s.vm.findClass own = some m.cls) (hlink : (Cond.methodLink own index y).before args s = true) (hinst : (Cond.instanceMethod y).before args s = true) (hsel : (Cond.selects C y y).before args s = true)
    (hcode : (Cond.code y bytes maxL ret).before args s = true) (hy : y.cls ≠ "java/lang/invoke/MethodHandle" ∧ y.cls ≠ "java/lang/invoke/VarHandle")
    {W9 : Nat} {Pre : Pt → Array Value → Prop} {Post : Pt → Array Value → Option Value → Pt → Prop} {PostX : Pt → Array Value → Addr → Pt → Prop} (hK : vx_Back l R p e below s args y 3 W9 Pre Post PostX)
    {b : Addr} {cellB : Cell} (hcell : T.heap[b]? = some cellB) (hobj : cellB.vm.isStatics = false) (hcls : s.vm.findClass C = some cellB.cls)
    {g : JFrame} (hg : g.method = m) (hsize : g.locals.size = c.maxLocals) {argsL rest : List Value} (hlen : ∀ sig, parseMethodDescriptor y.desc = some sig → argsL.length = sig.parameters.length)
    (hstack : g.stack = argsL.reverse ++ .ref b :: rest) (hW : 2 * g.monitorRoom + (rest.map fun v => v.category).sum ≤ W9) (hdg : decode c.code g.pc = .ok (.invokevirtual index, 3))
    (hpre : ∀ vm₁, s.WarmedH vm₁ → Pre ⟨T.setVm vm₁, locs, cells, slots⟩ (Value.ref b :: argsL).toArray) :
    (∃ (v : Option Value) (vm₁ : Vm) (B : Pt), s.WarmedH vm₁ ∧ Stand p l e R s m args below meth c B.U B.locs B.cells B.slots ∧ Post ⟨T.setVm vm₁, locs, cells, slots⟩ (Value.ref b :: argsL).toArray v B ∧
      ∀ target, Steps p.tables e below (B.U.setTop { g with pc := g.pc + 3, stack := v.toList ++ rest }) target → Steps p.tables e below (T.setTop g) target) ∨
    (∃ (q : Addr) (vm₁ : Vm) (B : Pt), s.WarmedH vm₁ ∧ Stand p l e R s m args below meth c B.U B.locs B.cells B.slots ∧ PostX ⟨T.setVm vm₁, locs, cells, slots⟩ (Value.ref b :: argsL).toArray q B ∧
      Steps p.tables e below (T.setTop g) ((B.U.setTop { g with stack := rest }).pushFrame (.throwing q))) := by
  obtain ⟨mk, methM, hnamed, hmethM, hstM, habM⟩ := Cond.instanceMethod_spec hinst
  obtain ⟨methM', cM, hmethM', -, -, -, -, -, -, hsigM⟩ := Cond.code_spec hnamed hcode
  cases hmethM.symm.trans hmethM'
  obtain ⟨c2, r2, m2, q1, q2, q3, q4, kP, hkP, hkPi⟩ := Cond.selects_spec hsel
  cases hcls.symm.trans q1
  cases (State.methodFound?_of_named hnamed hy).symm.trans q2
  cases hnamed.symm.trans q3
  have hselP : selectMethod e.platform s.vm cellB.cls mk = .method mk := by rw [Launch.admits_selectMethod X.admits]; exact q4
  obtain ⟨vm₁, X₁, hstep₁⟩ := X.invokevirtual hexec hown hlink hnamed hmethM hstM hkP hkPi hy (a := b) (cell := cellB) hcell
    (fun z h => by rw [h] at hobj; cases hobj) hselP hmethM habM hkP hkPi (g := g) hg (argsL := argsL) (rest := rest) (hlen _ hsigM) hstack hdg
  rcases hK m meth c ⟨T.setVm vm₁, locs, cells, slots⟩ { g with stack := rest } (.invokevirtual index) mk (Value.ref b :: argsL).toArray X₁ hg hsize hdg hW (X₁.named hnamed) (hpre vm₁ X₁.warmed) with ⟨v, B, X', hpost, hsteps⟩ | ⟨q, B, X', hpost, hsteps⟩
  · exact Or.inl ⟨v, vm₁, B, X₁.warmed, X', hpost, fun target h => hstep₁ _ fun acts => by rw [doInvoke_state]; exact hsteps.trans h⟩
  · exact Or.inr ⟨q, vm₁, B, X₁.warmed, X', hpost, hstep₁ _ fun acts => by rw [doInvoke_state]; exact hsteps⟩
theorem vx_callS (X : Stand p l e R s m args below meth c T locs cells slots) (hexec : p.tables.exec = Jvm.exec) {own : String} {index : Nat} {y : MethodName} {bytes : ByteArray} {maxL : Nat} {ret : Option FieldType}
    (hown : s.vm.findClass own = some m.cls) (hlink : (Cond.methodLink own index y).before args s = true) (hstat : (Cond.static y).before args s = true) (hinit : (Cond.initialized y.cls).before args s = true)
    (hcode : (Cond.code y bytes maxL ret).before args s = true) (hy : y.cls ≠ "java/lang/invoke/MethodHandle" ∧ y.cls ≠ "java/lang/invoke/VarHandle")
    {W9 : Nat} {Pre : Pt → Array Value → Prop} {Post : Pt → Array Value → Option Value → Pt → Prop} {PostX : Pt → Array Value → Addr → Pt → Prop} (hK : vx_Back l R p e below s args y 3 W9 Pre Post PostX)
    {g : JFrame} (hg : g.method = m) (hsize : g.locals.size = c.maxLocals) {argsL rest : List Value} (hlen : ∀ sig, parseMethodDescriptor y.desc = some sig → argsL.length = sig.parameters.length)
    (hstack : g.stack = argsL.reverse ++ rest) (hW : 2 * g.monitorRoom + (rest.map fun v => v.category).sum ≤ W9) (hdg : decode c.code g.pc = .ok (.invokestatic index, 3))
    (hpre : ∀ vm₁, s.WarmedH vm₁ → Pre ⟨T.setVm vm₁, locs, cells, slots⟩ argsL.toArray) :
    (∃ (v : Option Value) (vm₁ : Vm) (B : Pt), s.WarmedH vm₁ ∧ Stand p l e R s m args below meth c B.U B.locs B.cells B.slots ∧ Post ⟨T.setVm vm₁, locs, cells, slots⟩ argsL.toArray v B ∧
      ∀ target, Steps p.tables e below (B.U.setTop { g with pc := g.pc + 3, stack := v.toList ++ rest }) target → Steps p.tables e below (T.setTop g) target) ∨
    (∃ (q : Addr) (vm₁ : Vm) (B : Pt), s.WarmedH vm₁ ∧ Stand p l e R s m args below meth c B.U B.locs B.cells B.slots ∧ PostX ⟨T.setVm vm₁, locs, cells, slots⟩ argsL.toArray q B ∧
      Steps p.tables e below (T.setTop g) ((B.U.setTop { g with stack := rest }).pushFrame (.throwing q))) := by
  obtain ⟨mk, hnamed⟩ := Cond.code_named hcode
  obtain ⟨methM, cM, hmethM, -, -, -, -, -, -, hsigM⟩ := Cond.code_spec hnamed hcode
  have hstatic : methM.isStatic = true := Cond.static_spec hnamed hmethM hstat
  obtain ⟨kP, hkP, -⟩ := className_of_methodNamed hnamed
  have hinitP : kP.init = .initialized := Cond.initialized_spec (findClass_of_methodNamed hnamed) hkP hinit
  obtain ⟨vm₁, X₁, hstep₁⟩ := X.invokestatic hexec hown hlink hnamed hmethM hstatic hkP hinitP hy (g := g) hg (argsL := argsL) (rest := rest) (hlen _ hsigM) hstack hdg
  rcases hK m meth c ⟨T.setVm vm₁, locs, cells, slots⟩ { g with stack := rest } (.invokestatic index) mk argsL.toArray X₁ hg hsize hdg hW (X₁.named hnamed) (hpre vm₁ X₁.warmed) with ⟨v, B, X', hpost, hsteps⟩ | ⟨q, B, X', hpost, hsteps⟩
  · exact Or.inl ⟨v, vm₁, B, X₁.warmed, X', hpost, fun target h => hstep₁ _ fun acts => by rw [doInvoke_state]; exact hsteps.trans h⟩
  · exact Or.inr ⟨q, vm₁, B, X₁.warmed, X', hpost, hstep₁ _ fun acts => by rw [doInvoke_state]; exact hsteps⟩
end Calls
theorem vx_cls {s : State} {T : State} {vm₁ : Vm} {E : String} {k : ClassId} (hW : s.WarmedH vm₁) (h : (T.setVm vm₁).vm.findClass E = some k) : s.vm.findClass E = some k := by
  have h1 : vm₁.findClass E = some k := h
  rw [hW.alike.findClass] at h1
  exact h1
/-- the method's frame g, with q thrown over it -/
def vx_W (p : Program) (l : Launch) (e : Env) (R : Room) (s : State) (m : MethodId) (args : Array Value) (below : List Frame) (meth : Method) (c : Code) (H : Heap) (locs : List Loc) (cells slots : Nat) (Q : State → Prop) (g : JFrame) (q : Addr) : Prop :=
  ∀ T : State, T.heap = H → Stand p l e R s m args below meth c T locs cells slots → ∃ t, Steps p.tables e below ((T.setTop g).pushFrame (.throwing q)) t ∧ Q t
def vx_Run (p : Program) (l : Launch) (e : Env) (R : Room) (s : State) (m : MethodId) (args : Array Value) (below : List Frame) (meth : Method) (c : Code) (H : Heap) (locs : List Loc) (cells slots mc ms : Nat) (g : JFrame) (rest : List Value) (Qa : State → Outcome → State → Prop) (XC : String → State → State → Prop) (free : Addr → Prop) : Prop :=
  ∀ T : State, T.heap = H → Stand p l e R s m args below meth c T locs cells slots →
    (∃ (v : Option Value) (st₀ t T' : State) (L : List Loc), st₀.heap = H ∧ Stand p l e R s m args below meth c T' (locs ++ L) (cells + mc) (slots + ms) ∧ (∀ q ∈ L, free q.base) ∧ T'.heap = t.heap ∧ T'.vm = t.vm ∧ Qa st₀ (.returned v) t ∧
      Goes p e below T g T' { g with pc := g.pc + 3, stack := v.toList ++ rest }) ∨
    (∃ (q : Addr) (st₀ t T' : State) (L : List Loc) (E : String) (ce : Cell), st₀.heap = H ∧ Stand p l e R s m args below meth c T' (locs ++ L) (cells + mc) (slots + ms) ∧ (∀ z ∈ L, free z.base) ∧ T'.heap = t.heap ∧ T'.vm = t.vm ∧ XC E st₀ t ∧ t.heap[q]? = some ce ∧ ce.vm = .none ∧ s.vm.findClass E = some ce.cls ∧
      Steps p.tables e below (T.setTop g) ((T'.setTop { g with stack := rest }).pushFrame (.throwing q)))
def vx_X {S : Type} (px : S → Prop) (B : String → S → State → Prop) (A : Nat → Prop) : String → State → State → Prop := fun E st t => ∃ u : S, px u ∧ B E u t ∧ va_F A st t
section Runs
variable {p : Program} {l : Launch} {e : Env} {R : Room} {s : State} {m : MethodId} {args : Array Value} {below : List Frame} {meth : Method} {c : Code} {H : Heap} {locs : List Loc} {cells slots : Nat}
variable {y : MethodName} {bytes cc : ByteArray} {maxL nL mc ms n index : Nat} {ret : Option FieldType} {ws : List Cond} {rm : Room} {Pc : Array Value → State → Prop} {Qc : Array Value → State → Outcome → State → Prop} {XC : String → State → State → Prop} {free : Addr → Prop} {Ts : List Cond} {own C : String} {b : Addr} {As rest : List Value} {g : JFrame}
theorem vx_callBack (cb : CallB R s args own index y bytes maxL ret ws rm mc ms n) (hM : vx_Met l y ws rm Pc Qc XC mc ms free) (hbl : FrameBlind Pc) : vx_Back l R p e below s args y 3 8 (PreOf R mc ms Pc) (PostOf Qc mc ms free) (vx_Post XC mc ms free) := by
  obtain ⟨hrc, hrs, hfr, hlo, hws, hcw, -, hini, -⟩ := cb
  exact vx_back (bytes := bytes) (maxL := maxL) (ret := ret) hM hbl hrc hrs hfr hlo hws hcw (fun a' U hW => word_at hW (Or.inl (by first | rfl | simp [Cond.onTables, Cond.keeps, Cond.steady])) hini)
theorem vx_runV (S : CallFix p m c cc nL s args Ts own) (hM : vx_Met l y ws rm Pc Qc XC mc ms free) (cw : CallW R s args own C index y bytes maxL ret ws rm mc ms n) (hp : PreV s H C b Pc As)
    (hg : g.method = m) (hn : As.length = n) (hsize : g.locals.size = nL) (hstack : g.stack = As.reverse ++ .ref b :: rest) (hW : 2 * g.monitorRoom + (rest.map fun v => v.category).sum ≤ 8) (hdg : decode cc g.pc = .ok (.invokevirtual index, 3)) (hf : cells + mc ≤ R.cells ∧ slots + ms ≤ R.slots) :
    vx_Run p l e R s m args below meth c H locs cells slots mc ms g rest (Qc (Value.ref b :: As).toArray) XC free := by
  have hK : vx_Back l R p e below s args y 3 8 (PreOf R mc ms Pc) (PostOf Qc mc ms free) (vx_Post XC mc ms free) := vx_callBack cw.1 hM hp.1
  obtain ⟨⟨-, -, -, -, -, -, hcode, -, hy, hlen, hl⟩, hin, hse⟩ := cw
  obtain ⟨hx, hb, hml, ho, -⟩ := S
  obtain ⟨-, ⟨cellB, hcB, hoB, hclB⟩, hPc⟩ := hp
  intro T hT X
  rcases vx_callV X hx (C := C) (bytes := bytes) (maxL := maxL) (ret := ret) ho hl hin hse hcode hy hK (by rw [hT]; exact hcB) hoB hclB hg (hsize.trans hml.symm) (argsL := As) (rest := rest) (fun sig h => hn.trans (hlen sig h)) hstack hW (by rw [hb]; exact hdg)
    (fun vm₁ hW₁ => ⟨hf.1, hf.2, hPc (T.setVm vm₁) hT hW₁⟩) with ⟨v, vm₁, ⟨U', l2, c2, s2⟩, hW₁, X', ⟨g', mk, t, L, e1, e2, hq, h1, hL, h2, h3⟩, st⟩ | ⟨q, vm₁, ⟨U', l2, c2, s2⟩, hW₁, X', ⟨g', mk, t, L, E, ce, e1, e2, hq, hce, hcv, hcl, h1, hL, h2, h3⟩, st⟩
  · dsimp only [Pt.U, Pt.locs, Pt.cells, Pt.slots] at X' e1 e2 h1 h2 h3 st
    subst h1; subst h2; subst h3
    exact Or.inl ⟨v, (T.setVm vm₁).calling g' mk (Value.ref b :: As).toArray, t, U', L, hT, X', hL, e1, e2, hq, st⟩
  · dsimp only [Pt.U, Pt.locs, Pt.cells, Pt.slots] at X' e1 e2 h1 h2 h3 st hcl
    subst h1; subst h2; subst h3
    exact Or.inr ⟨q, (T.setVm vm₁).calling g' mk (Value.ref b :: As).toArray, t, U', L, E, ce, hT, X', hL, e1, e2, hq, hce, hcv, vx_cls hW₁ hcl, st⟩
theorem vx_runS (S : CallFix p m c cc nL s args Ts own) (hM : vx_Met l y ws rm Pc Qc XC mc ms free) (cw : CallB R s args own index y bytes maxL ret ws rm mc ms n ∧ (Cond.static y).before args s = true) (hp : PreS s H Pc As)
    (hg : g.method = m) (hn : As.length = n) (hsize : g.locals.size = nL) (hstack : g.stack = As.reverse ++ rest) (hW : 2 * g.monitorRoom + (rest.map fun v => v.category).sum ≤ 8) (hdg : decode cc g.pc = .ok (.invokestatic index, 3)) (hf : cells + mc ≤ R.cells ∧ slots + ms ≤ R.slots) :
    vx_Run p l e R s m args below meth c H locs cells slots mc ms g rest (Qc As.toArray) XC free := by
  have hK : vx_Back l R p e below s args y 3 8 (PreOf R mc ms Pc) (PostOf Qc mc ms free) (vx_Post XC mc ms free) := vx_callBack cw.1 hM hp.1
  obtain ⟨⟨-, -, -, -, -, -, hcode, hini, hy, hlen, hl⟩, hstt⟩ := cw
  obtain ⟨hx, hb, hml, ho, -⟩ := S
  intro T hT X
  rcases vx_callS X hx (bytes := bytes) (maxL := maxL) (ret := ret) ho hl hstt hini hcode hy hK hg (hsize.trans hml.symm) (argsL := As) (rest := rest) (fun sig h => hn.trans (hlen sig h)) hstack hW (by rw [hb]; exact hdg)
    (fun vm₁ hW₁ => ⟨hf.1, hf.2, hp.2 (T.setVm vm₁) hT hW₁⟩) with ⟨v, vm₁, ⟨U', l2, c2, s2⟩, hW₁, X', ⟨g', mk, t, L, e1, e2, hq, h1, hL, h2, h3⟩, st⟩ | ⟨q, vm₁, ⟨U', l2, c2, s2⟩, hW₁, X', ⟨g', mk, t, L, E, ce, e1, e2, hq, hce, hcv, hcl, h1, hL, h2, h3⟩, st⟩
  · dsimp only [Pt.U, Pt.locs, Pt.cells, Pt.slots] at X' e1 e2 h1 h2 h3 st
    subst h1; subst h2; subst h3
    exact Or.inl ⟨v, (T.setVm vm₁).calling g' mk As.toArray, t, U', L, hT, X', hL, e1, e2, hq, st⟩
  · dsimp only [Pt.U, Pt.locs, Pt.cells, Pt.slots] at X' e1 e2 h1 h2 h3 st hcl
    subst h1; subst h2; subst h3
    exact Or.inr ⟨q, (T.setVm vm₁).calling g' mk As.toArray, t, U', L, E, ce, hT, X', hL, e1, e2, hq, hce, hcv, vx_cls hW₁ hcl, st⟩
end Runs
section Rows
variable {p : Program} {l : Launch} {e : Env} {R : Room} {s : State} {m : MethodId} {args : Array Value} {below : List Frame} {meth : Method} {c : Code} {H : Heap} {locs : List Loc} {cells slots : Nat} {Q : State → Prop}
variable {mc ms : Nat} {free : Addr → Prop} {A0 A1 : Nat → Prop} {H0 : Heap} {a : Array Value} {pc : Nat} {ls : Array Slot} {st0 rest : List Value}
theorem vx_keep {st₀ t T' : State} {L : List Loc} (h0 : st₀.heap = H) (e1 : T'.heap = t.heap) (hS : va_S A0 H0 H locs) (hA : ∀ q, q < H.size → A1 q → A0 q) (hf : ∀ q, free q → A0 q) (hL : ∀ q ∈ L, free q.base) (hF : va_F A1 st₀ t) :
    H.size ≤ T'.heap.size ∧ (∀ q : Nat, q < H.size → ¬ A1 q → T'.heap[q]? = H[q]?) ∧ va_S A0 H0 T'.heap (locs ++ L) := by
  obtain ⟨hz, hk⟩ := hF
  rw [h0] at hz hk
  exact ⟨by rw [e1]; exact hz, fun q h1 h2 => by rw [e1]; exact hk q h1 h2,
    ⟨Nat.le_trans hS.1 (by rw [e1]; exact hz), fun q h1 h2 => by rw [e1, hk q (Nat.lt_of_lt_of_le h1 hS.1) (fun z => h2 (hA q (Nat.lt_of_lt_of_le h1 hS.1) z))]; exact hS.2.1 q h1 h2, fun q hq => by
      rcases List.mem_append.mp hq with h | h
      · exact hS.2.2 q h
      · exact hf _ (hL q h)⟩⟩
theorem vx_calli {S SX : Type} {post : Int32 → S → Prop} {px : SX → Prop} {B : S → State → Prop} {BX : String → SX → State → Prop} {AX : Nat → Prop} (hr : vx_Run p l e R s m args below meth c H locs cells slots mc ms (F0 m pc ls st0) rest (va_Qi post B A1 a) (vx_X px BX AX) free) (hS : va_S A0 H0 H locs) (hA : ∀ q, q < H.size → A1 q → A0 q) (hf : ∀ q, free q → A0 q) (hAX : ∀ q, q < H.size → AX q → A0 q)
    (kx : ∀ (E : String) (ce : Cell) (q9 : Addr) (u : SX) (t : State) (H1 : Heap) (locs1 : List Loc), t.heap = H1 → s.vm.Alike t.vm → px u → BX E u t → H.size ≤ H1.size → (∀ q : Nat, q < H.size → ¬ AX q → H1[q]? = H[q]?) → va_S A0 H0 H1 locs1 → H1[q9]? = some ce → ce.vm = .none → s.vm.findClass E = some ce.cls → vx_W p l e R s m args below meth c H1 locs1 (cells + mc) (slots + ms) Q (F0 m pc ls rest) q9)
    (kk : ∀ (r : Int32) (u : S) (t : State) (H1 : Heap) (locs1 : List Loc), t.heap = H1 → s.vm.Alike t.vm → post r u → B u t → H.size ≤ H1.size → (∀ q : Nat, q < H.size → ¬ A1 q → H1[q]? = H[q]?) → va_S A0 H0 H1 locs1 → W p l e R s m args below meth c H1 locs1 (cells + mc) (slots + ms) Q (F0 m (pc + 3) ls (.int r :: rest))) : W p l e R s m args below meth c H locs cells slots Q (F0 m pc ls st0) := by
  intro T hT X
  rcases hr T hT X with ⟨v, st₀, t, T', L, h0, X', hL, e1, e2, ⟨⟨r, u, hv, hp, hb⟩, hF⟩, st⟩ | ⟨q, st₀, t, T', L, E, ce, h0, X', hL, e1, e2, ⟨u, hp, hb, hF⟩, hce, hcv, hcl, st⟩
  · cases hv
    obtain ⟨k1, k2, k3⟩ := vx_keep h0 e1 hS hA hf hL hF
    obtain ⟨t2, a1, b1⟩ := kk r u t T'.heap (locs ++ L) e1.symm (by rw [← e2]; exact X'.warmed.alike) hp hb k1 k2 k3 T' rfl X'
    exact ⟨t2, st t2 a1, b1⟩
  · obtain ⟨k1, k2, k3⟩ := vx_keep h0 e1 hS hAX hf hL hF
    obtain ⟨t2, a1, b1⟩ := kx E ce q u t T'.heap (locs ++ L) e1.symm (by rw [← e2]; exact X'.warmed.alike) hp hb k1 k2 k3 (by rw [e1]; exact hce) hcv hcl T' rfl X'
    exact ⟨t2, st.trans a1, b1⟩
theorem vx_calll {S SX : Type} {post : Int64 → S → Prop} {px : SX → Prop} {B : S → State → Prop} {BX : String → SX → State → Prop} {AX : Nat → Prop} (hr : vx_Run p l e R s m args below meth c H locs cells slots mc ms (F0 m pc ls st0) rest (va_Ql post B A1 a) (vx_X px BX AX) free) (hS : va_S A0 H0 H locs) (hA : ∀ q, q < H.size → A1 q → A0 q) (hf : ∀ q, free q → A0 q) (hAX : ∀ q, q < H.size → AX q → A0 q)
    (kx : ∀ (E : String) (ce : Cell) (q9 : Addr) (u : SX) (t : State) (H1 : Heap) (locs1 : List Loc), t.heap = H1 → s.vm.Alike t.vm → px u → BX E u t → H.size ≤ H1.size → (∀ q : Nat, q < H.size → ¬ AX q → H1[q]? = H[q]?) → va_S A0 H0 H1 locs1 → H1[q9]? = some ce → ce.vm = .none → s.vm.findClass E = some ce.cls → vx_W p l e R s m args below meth c H1 locs1 (cells + mc) (slots + ms) Q (F0 m pc ls rest) q9)
    (kk : ∀ (r : Int64) (u : S) (t : State) (H1 : Heap) (locs1 : List Loc), t.heap = H1 → s.vm.Alike t.vm → post r u → B u t → H.size ≤ H1.size → (∀ q : Nat, q < H.size → ¬ A1 q → H1[q]? = H[q]?) → va_S A0 H0 H1 locs1 → W p l e R s m args below meth c H1 locs1 (cells + mc) (slots + ms) Q (F0 m (pc + 3) ls (.long r :: rest))) : W p l e R s m args below meth c H locs cells slots Q (F0 m pc ls st0) := by
  intro T hT X
  rcases hr T hT X with ⟨v, st₀, t, T', L, h0, X', hL, e1, e2, ⟨⟨r, u, hv, hp, hb⟩, hF⟩, st⟩ | ⟨q, st₀, t, T', L, E, ce, h0, X', hL, e1, e2, ⟨u, hp, hb, hF⟩, hce, hcv, hcl, st⟩
  · cases hv
    obtain ⟨k1, k2, k3⟩ := vx_keep h0 e1 hS hA hf hL hF
    obtain ⟨t2, a1, b1⟩ := kk r u t T'.heap (locs ++ L) e1.symm (by rw [← e2]; exact X'.warmed.alike) hp hb k1 k2 k3 T' rfl X'
    exact ⟨t2, st t2 a1, b1⟩
  · obtain ⟨k1, k2, k3⟩ := vx_keep h0 e1 hS hAX hf hL hF
    obtain ⟨t2, a1, b1⟩ := kx E ce q u t T'.heap (locs ++ L) e1.symm (by rw [← e2]; exact X'.warmed.alike) hp hb k1 k2 k3 (by rw [e1]; exact hce) hcv hcl T' rfl X'
    exact ⟨t2, st.trans a1, b1⟩
theorem vx_callf {S SX : Type} {post : UInt32 → S → Prop} {px : SX → Prop} {B : S → State → Prop} {BX : String → SX → State → Prop} {AX : Nat → Prop} (hr : vx_Run p l e R s m args below meth c H locs cells slots mc ms (F0 m pc ls st0) rest (va_Qf post B A1 a) (vx_X px BX AX) free) (hS : va_S A0 H0 H locs) (hA : ∀ q, q < H.size → A1 q → A0 q) (hf : ∀ q, free q → A0 q) (hAX : ∀ q, q < H.size → AX q → A0 q)
    (kx : ∀ (E : String) (ce : Cell) (q9 : Addr) (u : SX) (t : State) (H1 : Heap) (locs1 : List Loc), t.heap = H1 → s.vm.Alike t.vm → px u → BX E u t → H.size ≤ H1.size → (∀ q : Nat, q < H.size → ¬ AX q → H1[q]? = H[q]?) → va_S A0 H0 H1 locs1 → H1[q9]? = some ce → ce.vm = .none → s.vm.findClass E = some ce.cls → vx_W p l e R s m args below meth c H1 locs1 (cells + mc) (slots + ms) Q (F0 m pc ls rest) q9)
    (kk : ∀ (r : UInt32) (u : S) (t : State) (H1 : Heap) (locs1 : List Loc), t.heap = H1 → s.vm.Alike t.vm → post r u → B u t → H.size ≤ H1.size → (∀ q : Nat, q < H.size → ¬ A1 q → H1[q]? = H[q]?) → va_S A0 H0 H1 locs1 → W p l e R s m args below meth c H1 locs1 (cells + mc) (slots + ms) Q (F0 m (pc + 3) ls (.float r :: rest))) : W p l e R s m args below meth c H locs cells slots Q (F0 m pc ls st0) := by
  intro T hT X
  rcases hr T hT X with ⟨v, st₀, t, T', L, h0, X', hL, e1, e2, ⟨⟨r, u, hv, hp, hb⟩, hF⟩, st⟩ | ⟨q, st₀, t, T', L, E, ce, h0, X', hL, e1, e2, ⟨u, hp, hb, hF⟩, hce, hcv, hcl, st⟩
  · cases hv
    obtain ⟨k1, k2, k3⟩ := vx_keep h0 e1 hS hA hf hL hF
    obtain ⟨t2, a1, b1⟩ := kk r u t T'.heap (locs ++ L) e1.symm (by rw [← e2]; exact X'.warmed.alike) hp hb k1 k2 k3 T' rfl X'
    exact ⟨t2, st t2 a1, b1⟩
  · obtain ⟨k1, k2, k3⟩ := vx_keep h0 e1 hS hAX hf hL hF
    obtain ⟨t2, a1, b1⟩ := kx E ce q u t T'.heap (locs ++ L) e1.symm (by rw [← e2]; exact X'.warmed.alike) hp hb k1 k2 k3 (by rw [e1]; exact hce) hcv hcl T' rfl X'
    exact ⟨t2, st.trans a1, b1⟩
theorem vx_calld {S SX : Type} {post : UInt64 → S → Prop} {px : SX → Prop} {B : S → State → Prop} {BX : String → SX → State → Prop} {AX : Nat → Prop} (hr : vx_Run p l e R s m args below meth c H locs cells slots mc ms (F0 m pc ls st0) rest (va_Qd post B A1 a) (vx_X px BX AX) free) (hS : va_S A0 H0 H locs) (hA : ∀ q, q < H.size → A1 q → A0 q) (hf : ∀ q, free q → A0 q) (hAX : ∀ q, q < H.size → AX q → A0 q)
    (kx : ∀ (E : String) (ce : Cell) (q9 : Addr) (u : SX) (t : State) (H1 : Heap) (locs1 : List Loc), t.heap = H1 → s.vm.Alike t.vm → px u → BX E u t → H.size ≤ H1.size → (∀ q : Nat, q < H.size → ¬ AX q → H1[q]? = H[q]?) → va_S A0 H0 H1 locs1 → H1[q9]? = some ce → ce.vm = .none → s.vm.findClass E = some ce.cls → vx_W p l e R s m args below meth c H1 locs1 (cells + mc) (slots + ms) Q (F0 m pc ls rest) q9)
    (kk : ∀ (r : UInt64) (u : S) (t : State) (H1 : Heap) (locs1 : List Loc), t.heap = H1 → s.vm.Alike t.vm → post r u → B u t → H.size ≤ H1.size → (∀ q : Nat, q < H.size → ¬ A1 q → H1[q]? = H[q]?) → va_S A0 H0 H1 locs1 → W p l e R s m args below meth c H1 locs1 (cells + mc) (slots + ms) Q (F0 m (pc + 3) ls (.double r :: rest))) : W p l e R s m args below meth c H locs cells slots Q (F0 m pc ls st0) := by
  intro T hT X
  rcases hr T hT X with ⟨v, st₀, t, T', L, h0, X', hL, e1, e2, ⟨⟨r, u, hv, hp, hb⟩, hF⟩, st⟩ | ⟨q, st₀, t, T', L, E, ce, h0, X', hL, e1, e2, ⟨u, hp, hb, hF⟩, hce, hcv, hcl, st⟩
  · cases hv
    obtain ⟨k1, k2, k3⟩ := vx_keep h0 e1 hS hA hf hL hF
    obtain ⟨t2, a1, b1⟩ := kk r u t T'.heap (locs ++ L) e1.symm (by rw [← e2]; exact X'.warmed.alike) hp hb k1 k2 k3 T' rfl X'
    exact ⟨t2, st t2 a1, b1⟩
  · obtain ⟨k1, k2, k3⟩ := vx_keep h0 e1 hS hAX hf hL hF
    obtain ⟨t2, a1, b1⟩ := kx E ce q u t T'.heap (locs ++ L) e1.symm (by rw [← e2]; exact X'.warmed.alike) hp hb k1 k2 k3 (by rw [e1]; exact hce) hcv hcl T' rfl X'
    exact ⟨t2, st.trans a1, b1⟩
theorem vx_callv {S SX : Type} {post : S → Prop} {px : SX → Prop} {B : S → State → Prop} {BX : String → SX → State → Prop} {AX : Nat → Prop} (hr : vx_Run p l e R s m args below meth c H locs cells slots mc ms (F0 m pc ls st0) rest (va_Qv post B A1 a) (vx_X px BX AX) free) (hS : va_S A0 H0 H locs) (hA : ∀ q, q < H.size → A1 q → A0 q) (hf : ∀ q, free q → A0 q) (hAX : ∀ q, q < H.size → AX q → A0 q)
    (kx : ∀ (E : String) (ce : Cell) (q9 : Addr) (u : SX) (t : State) (H1 : Heap) (locs1 : List Loc), t.heap = H1 → s.vm.Alike t.vm → px u → BX E u t → H.size ≤ H1.size → (∀ q : Nat, q < H.size → ¬ AX q → H1[q]? = H[q]?) → va_S A0 H0 H1 locs1 → H1[q9]? = some ce → ce.vm = .none → s.vm.findClass E = some ce.cls → vx_W p l e R s m args below meth c H1 locs1 (cells + mc) (slots + ms) Q (F0 m pc ls rest) q9)
    (kk : ∀ (u : S) (t : State) (H1 : Heap) (locs1 : List Loc), t.heap = H1 → s.vm.Alike t.vm → post u → B u t → H.size ≤ H1.size → (∀ q : Nat, q < H.size → ¬ A1 q → H1[q]? = H[q]?) → va_S A0 H0 H1 locs1 → W p l e R s m args below meth c H1 locs1 (cells + mc) (slots + ms) Q (F0 m (pc + 3) ls (rest))) : W p l e R s m args below meth c H locs cells slots Q (F0 m pc ls st0) := by
  intro T hT X
  rcases hr T hT X with ⟨v, st₀, t, T', L, h0, X', hL, e1, e2, ⟨⟨u, hv, hp, hb⟩, hF⟩, st⟩ | ⟨q, st₀, t, T', L, E, ce, h0, X', hL, e1, e2, ⟨u, hp, hb, hF⟩, hce, hcv, hcl, st⟩
  · cases hv
    obtain ⟨k1, k2, k3⟩ := vx_keep h0 e1 hS hA hf hL hF
    obtain ⟨t2, a1, b1⟩ := kk u t T'.heap (locs ++ L) e1.symm (by rw [← e2]; exact X'.warmed.alike) hp hb k1 k2 k3 T' rfl X'
    exact ⟨t2, st t2 a1, b1⟩
  · obtain ⟨k1, k2, k3⟩ := vx_keep h0 e1 hS hAX hf hL hF
    obtain ⟨t2, a1, b1⟩ := kx E ce q u t T'.heap (locs ++ L) e1.symm (by rw [← e2]; exact X'.warmed.alike) hp hb k1 k2 k3 (by rw [e1]; exact hce) hcv hcl T' rfl X'
    exact ⟨t2, st.trans a1, b1⟩
/-- caught by the row x of this method's table; the rows ahead don't take it -/
theorem vx_catch {own name : String} {E : String} {ce : Cell} {q : Addr} (hown : s.vm.findClass own = some m.cls) (pre : List ExceptionTableEntry) (x : ExceptionTableEntry) (suf : List ExceptionTableEntry) (hsplit : c.exceptionTable.toList = pre ++ x :: suf)
    (hpass : ∀ z ∈ pre, covers z pc = false ∨ (z.catchType ≠ 0 ∧ ∃ nm : String, (Cond.classLink own z.catchType nm).before args s = true ∧ va_Nc E nm s)) (hx : covers x pc = true) (h0 : x.catchType ≠ 0)
    (hlink : (Cond.classLink own x.catchType name).before args s = true) (hcast : (Cond.castable E name).before args s = true) (hcell : H[q]? = some ce) (hv : ce.vm = .none) (hcl : s.vm.findClass E = some ce.cls)
    (kk : W p l e R s m args below meth c H locs cells slots Q (F0 m x.handlerPc ls [.ref q])) : vx_W p l e R s m args below meth c H locs cells slots Q (F0 m pc ls rest) q := by
  intro T hT X
  have hpl : e.platform.magicAccessors = ({} : Platform).magicAccessors := by rw [X.admits.platform]
  obtain ⟨c3, c4, hc3, hc4, hasg⟩ := Cond.castable_spec hcast
  cases Option.some.inj (hc3.symm.trans hcl)
  obtain ⟨c5, hc5, hcl5⟩ := Cond.classLink_spec hown hlink e.platform hpl
  cases Option.some.inj (hc4.symm.trans hc5)
  obtain ⟨vm', X', st⟩ := X.thenCaughtThrough q (g := F0 m pc ls rest) rfl (Steps.refl _) (by rw [hT]; exact hcell) (by rw [hv]; rfl) (by obtain ⟨k9, h9, -⟩ := Vm.findClass_spec hcl; exact ⟨k9, h9⟩) pre x suf hsplit
    (fun z hz => by
      rcases hpass z hz with h | ⟨hz0, nm, hl1, hn1⟩
      · exact Or.inl h
      · obtain ⟨c6, hc6, hcl6⟩ := Cond.classLink_spec hown hl1 e.platform hpl
        obtain ⟨a8, b8, h1, h2, h3⟩ := hn1
        cases Option.some.inj (h1.symm.trans hcl)
        cases Option.some.inj (h2.symm.trans hc6)
        exact Or.inr ⟨hz0, _, hcl6, h3⟩) hx (Or.inr ⟨h0, c4, hcl5, hasg⟩)
  obtain ⟨t, a1, b1⟩ := kk (T.setVm vm') hT X'
  exact ⟨t, st.trans a1, b1⟩
end Rows
section Ends
variable {p : Program} {l : Launch} {e : Env} {R : Room} {s : State} {m : MethodId} {args : Array Value} {below : List Frame} {meth : Method} {c : Code} {H : Heap} {locs : List Loc} {cells slots : Nat} {Q : State → Prop}
variable {mc ms : Nat} {free : Addr → Prop} {A0 A1 : Nat → Prop} {H0 : Heap} {a : Array Value} {ls : Array Slot} {st0 rest : List Value}
variable {Qc : Array Value → State → Outcome → State → Prop} {XC : String → State → State → Prop}
/-- what a body that may throw owes at its end -/
def vx_MQ (below : List Frame) (Qc : Array Value → State → Outcome → State → Prop) (XC : String → State → State → Prop) (a : Array Value) (s : State) (mc ms : Nat) (free : Addr → Prop) : State → Prop := fun t =>
  ∃ o, t.status = .running ∧ Ended t below o ∧ vx_Q Qc XC mc ms free a s o t
theorem vx_ret {g : JFrame} {mc ms : Nat} (k : W p l e R s m args below meth c H locs cells slots (MQ below Qc args s mc ms free) g) : W p l e R s m args below meth c H locs cells slots (vx_MQ below Qc XC args s mc ms free) g := by
  intro T hT X
  obtain ⟨t, a1, o, b1, b2, b3, b4⟩ := k T hT X
  exact ⟨t, a1, o, b1, b2, Or.inl ⟨b3, b4⟩⟩
/-- not caught here: it goes on to the caller -/
theorem vx_widen {g : JFrame} {q : Addr} {k n : Nat} (h1 : cells ≤ k) (h2 : slots ≤ n) (kk : vx_W p l e R s m args below meth c H locs k n Q g q) : vx_W p l e R s m args below meth c H locs cells slots Q g q := fun T hT X => kk T hT (stand_widen X h1 h2)
theorem vx_out {pc : Nat} {E : String} {ce : Cell} {q : Addr} {mc ms : Nat} (hout : ∀ x ∈ c.exceptionTable.toList, covers x pc = false) (hlocks : meth.locks = false) (hcell : H[q]? = some ce) (hv : ce.vm = .none) (hcl : s.vm.findClass E = some ce.cls)
    (hx : ∀ t : State, t.heap = H → s.vm.Alike t.vm → XC E s t) (hf : ∀ z ∈ locs, free z.base) (hc : cells ≤ mc) (hs : slots ≤ ms) :
    vx_W p l e R s m args below meth c H locs cells slots (vx_MQ below Qc XC args s mc ms free) (F0 m pc ls rest) q := by
  intro T hT X
  obtain ⟨st1, hrun, hend, hW, hsm⟩ := X.leaveThrown q (g := F0 m pc ls rest) rfl rfl rfl hout hlocks
  have hcell9 : (T.setFrames (.throwing q :: below)).heap[q]? = some ce := by
    show T.heap[q]? = some ce
    rw [hT]; exact hcell
  exact ⟨_, st1, .threw q, hrun, hend, Or.inr ⟨q, rfl, E, ce, locs, hx _ hT hW.alike, hcell9, hv, hcl, hW, hsm.mono hc hs, hf⟩⟩
theorem vx_frame {U : State} {k n : Nat} (h : s.sameButNew ({ U with vm := s.vm } : State) locs k n) : s.heap.size ≤ U.heap.size ∧ ∀ q : Nat, q < s.heap.size → (∀ z ∈ locs, z.base ≠ q) → U.heap[q]? = s.heap[q]? := by
  obtain ⟨-, h2, -, -, -, h6⟩ := h
  refine ⟨h2, fun q hq hz => ?_⟩
  obtain ⟨c9, e1, e2, e3, e4⟩ := h6 q _ (Array.getElem?_eq_getElem hq)
  have hs : c9.slots = (s.heap[q]).slots := Array.ext_getElem? fun i => e4 i fun hm => hz _ hm rfl
  have h9 : c9 = s.heap[q] := by
    rw [hs] at e2
    exact e2
  have e5 : U.heap[q]? = some c9 := e1
  rw [e5, h9, Array.getElem?_eq_getElem hq]
/-- the words of a throw but the four that speak of the heap -/
def vx_no (w : Cond) : Bool := decide (w ≠ .isRef (.static Bundle.tN "UNASSIGNED_STACK" Bundle.steD)) && decide (w ≠ .isRef (.static Bundle.tN "SUPPRESSED_SENTINEL" Bundle.listD)) && decide (w ≠ .laysStatic Bundle.tN "UNASSIGNED_STACK" Bundle.steD) && decide (w ≠ .laysStatic Bundle.tN "SUPPRESSED_SENTINEL" Bundle.listD)
def vx_at0 (own : String) (ic : Nat) (X : String) (names : List String) : List Cond := (Bundle.ownAtoms0 own ic X names).filter vx_no
def vx_atS (own : String) (ic : Nat) (X : String) (names : List String) : List Cond := (Bundle.ownAtoms own ic X names).filter vx_no
/-- a word that the tables alone decide, or a good one -/
def vx_ot (w : Cond) : Bool := w.onTables || goodWord w
theorem vx_ot_at {args a' : Array Value} {s U : State} {w : Cond} (hW : s.WarmedH U.vm) (hvm : s.vm = U.vm) (hg : vx_ot w = true) (h : w.before args s = true) : w.before a' U = true := by
  simp only [vx_ot, Bool.or_eq_true] at hg
  rcases hg with hg | hg
  · exact va_tabs hg hvm h
  · exact word_at hW (good_of_word hg) h
/-- a list's words: the good ones out of the method's own list, the others by premises of their own -/
theorem vx_hat {args : Array Value} {s : State} {L B : List Cond} (h1 : ∀ w ∈ L.filter goodWord, w.before args s = true) (h2 : ∀ w ∈ L.filter (fun w => !goodWord w), w ∈ B) (h3 : ∀ w ∈ B, w.before args s = true) : ∀ w ∈ L, w.before args s = true := by
  intro w hw
  by_cases g : goodWord w = true
  · exact h1 w (List.mem_filter.mpr ⟨hw, g⟩)
  · refine h3 w (h2 w (List.mem_filter.mpr ⟨hw, ?_⟩))
    show (!goodWord w) = true
    cases hgw : goodWord w
    · rfl
    · exact absurd hgw g
theorem vx_c {args : Array Value} {s : State} {w : Cond} {B : List Cond} (h : w.before args s = true) (t : ∀ w ∈ B, w.before args s = true) : ∀ w' ∈ w :: B, w'.before args s = true := fun w' h' => (List.mem_cons.mp h').elim (fun e => by rw [e]; exact h) (t w')
theorem vx_n {args : Array Value} {s : State} : ∀ w ∈ ([] : List Cond), w.before args s = true := fun _ h => nomatch h
theorem vx_own {args : Array Value} {s : State} {L : List Cond} (h1 : ∀ w ∈ L.filter vx_no, w.before args s = true)
    (hU : (Cond.isRef (.static Bundle.tN "UNASSIGNED_STACK" Bundle.steD)).before args s = true) (hN : (Cond.isRef (.static Bundle.tN "SUPPRESSED_SENTINEL" Bundle.listD)).before args s = true)
    (lU : (Cond.laysStatic Bundle.tN "UNASSIGNED_STACK" Bundle.steD).before args s = true) (lN : (Cond.laysStatic Bundle.tN "SUPPRESSED_SENTINEL" Bundle.listD).before args s = true) : ∀ w ∈ L, w.before args s = true := by
  intro w hw
  by_cases e1 : w = .isRef (.static Bundle.tN "UNASSIGNED_STACK" Bundle.steD)
  · rw [e1]; exact hU
  · by_cases e2 : w = .isRef (.static Bundle.tN "SUPPRESSED_SENTINEL" Bundle.listD)
    · rw [e2]; exact hN
    · by_cases e3 : w = .laysStatic Bundle.tN "UNASSIGNED_STACK" Bundle.steD
      · rw [e3]; exact lU
      · by_cases e4 : w = .laysStatic Bundle.tN "SUPPRESSED_SENTINEL" Bundle.listD
        · rw [e4]; exact lN
        · exact h1 w (List.mem_filter.mpr ⟨hw, by unfold vx_no; rw [decide_eq_true e1, decide_eq_true e2, decide_eq_true e3, decide_eq_true e4]; rfl⟩)
/-- where a static field lies, its class's statics cell in H -/
def vx_L (C n d : String) (A : Nat → Prop) (U : State) (H : Heap) : Prop := ∃ (c : ClassId) (k : Class) (i : Nat) (f : Field) (a : Nat) (cell : Cell), U.vm.findClass C = some c ∧ U.fieldFound? C n d = some (c, k, i, f) ∧ f.isStatic = true ∧ k.statics = some a ∧ H[a]? = some cell ∧ cell.vm.isStatics = true ∧ cell.cls = c ∧ f.slot < cell.slots.size ∧ k.staticTypes[f.slot]? = some f.type ∧ ¬ A a
theorem vx_L.moved {C n d : String} {A : Nat → Prop} {u U : State} {H : Heap} (hvm : u.vm.Alike U.vm) (h : vx_L C n d A u H) : vx_L C n d A U H := by
  obtain ⟨c, k, i, f, a, cell, h1, h2, h3, h4, h5, h6, h7, h8, h9, h10⟩ := h
  obtain ⟨k', hi', he⟩ := State.fieldFound?_setVm hvm h2
  exact ⟨c, k', i, f, a, cell, by rw [hvm.findClass]; exact h1, hi', h3, by rw [he]; exact h4, h5, h6, h7, h8, by rw [he]; exact h9, h10⟩
theorem vx_L.kept {C n d : String} {A : Nat → Prop} {U : State} {H H1 : Heap} (h : vx_L C n d A U H) (hq : ∀ a : Nat, a < H.size → ¬ A a → H1[a]? = H[a]?) : vx_L C n d A U H1 := by
  obtain ⟨c, k, i, f, a, cell, h1, h2, h3, h4, h5, h6, h7, h8, h9, h10⟩ := h
  exact ⟨c, k, i, f, a, cell, h1, h2, h3, h4, by rw [hq a (Array.getElem?_eq_some_iff.mp h5).1 h10]; exact h5, h6, h7, h8, h9, h10⟩
theorem vx_L.narrow {C n d : String} {A B : Nat → Prop} {U : State} {H : Heap} (h : vx_L C n d A U H) (hAB : ∀ q, B q → A q) : vx_L C n d B U H := by
  obtain ⟨c, k, i, f, a, cell, h1, h2, h3, h4, h5, h6, h7, h8, h9, h10⟩ := h
  exact ⟨c, k, i, f, a, cell, h1, h2, h3, h4, h5, h6, h7, h8, h9, fun z => h10 (hAB _ z)⟩
theorem vx_L.word {C n d : String} {A : Nat → Prop} {s : State} {args : Array Value} (h : vx_L C n d A s s.heap) : (Cond.laysStatic C n d).before args s = true := by
  obtain ⟨c, k, i, f, a, cell, h1, h2, h3, h4, h5, h6, h7, h8, h9, -⟩ := h
  show (Cond.laysStatic C n d).holds args s none s [] = true
  exact Cond.laysStatic_of h1 h2 h3 h4 h5 h6 h7 h8 h9
/-- .. and what it holds: null or some reference -/
def vx_Zq (C n d : String) (A : Nat → Prop) (U : State) (H : Heap) : Prop := va_Zq C n d A U H ∧ vx_L C n d A U H
theorem vx_Zq.moved {C n d : String} {A : Nat → Prop} {u U : State} {H : Heap} (hvm : u.vm.Alike U.vm) (h : vx_Zq C n d A u H) : vx_Zq C n d A U H := ⟨va_Zq.moved hvm h.1, vx_L.moved hvm h.2⟩
theorem vx_Zq.kept {C n d : String} {A : Nat → Prop} {U : State} {H H1 : Heap} (h : vx_Zq C n d A U H) (hq : ∀ a : Nat, a < H.size → ¬ A a → H1[a]? = H[a]?) : vx_Zq C n d A U H1 := ⟨va_Zq.kept h.1 hq, vx_L.kept h.2 hq⟩
theorem vx_Zq.narrow {C n d : String} {A B : Nat → Prop} {U : State} {H : Heap} (h : vx_Zq C n d A U H) (hAB : ∀ q, B q → A q) : vx_Zq C n d B U H := ⟨va_Zq.narrow h.1 hAB, vx_L.narrow h.2 hAB⟩
theorem vx_Zqof {args : Array Value} {s : State} {C n d : String} {A : Nat → Prop} (hl : (Cond.laysStatic C n d).before args s = true) (hini : (Cond.initialized C).before args s = true) (h : (Cond.isRef (.static C n d)).before args s = true) (hA : ∀ a : Nat, a < s.heap.size → ¬ A a) : vx_Zq C n d A s s.heap := by
  refine ⟨va_Zqof hl hini h hA, ?_⟩
  obtain ⟨c, k, i, f, a, cell, h1, h2, h3, h4, h5, h6, h7, h8, h9⟩ := Cond.laysStatic_spec hl
  exact ⟨c, k, i, f, a, cell, h1, h2, h3, h4, h5, h6, h7, h8, h9, hA a (Array.getElem?_eq_some_iff.mp h5).1⟩
theorem vx_isRef {C n d : String} {v : Value} {A : Nat → Prop} {s : State} {args : Array Value} (h : va_Z C n d v A s s.heap) (hv : v.isRef = true) : (Cond.isRef (.static C n d)).before args s = true := by
  obtain ⟨cf, kf, fi, f, a, cell, h1, h2, h3, h4, h5, h6, h7, -⟩ := h
  have he : (Term.static C n d).eval args s none [] s = some v := by
    simp [Term.eval, State.fieldNamed?, h1, h2, h4, h5, h6, h7]
  simp only [Cond.before, Cond.holds, Cond.value, he]
  cases v <;> simp_all [Value.isRef]
theorem vx_isRefq {C n d : String} {A : Nat → Prop} {s : State} {args : Array Value} (h : va_Zq C n d A s s.heap) : (Cond.isRef (.static C n d)).before args s = true := by
  rcases h with h | ⟨t, h⟩
  · exact vx_isRef h rfl
  · exact vx_isRef h rfl
/-- the same frame, seen from here: as if the method were called anew in this heap -/
theorem vx_rebase {T : State} (X : Stand p l e R s m args below meth c T locs cells slots) {R' : Room} (hf : R'.frames ≤ R.frames) (hl : R'.locals ≤ R.locals) (hc : cells + R'.cells ≤ R.cells) (hs : slots + R'.slots ≤ R.slots) :
    Stand p l e R' ((T.setVm s.vm).setFrames (.invoking m args :: below)) m args below meth c T [] 0 0 := by
  have htop : (T.setVm s.vm).topJava?.isSome := X.here.top
  have hF : ((T.setVm s.vm).setFrames (.invoking m args :: below)).frames = .invoking m args :: below := State.frames_setFrames _ (State.cur_lt_of_top htop)
  obtain ⟨g₀, hg0⟩ := Option.isSome_iff_exists.mp htop
  obtain ⟨r, hr⟩ := State.topJava?_eq_some.mp hg0
  have hl9 : e.platform.stackLimits (T.setVm s.vm).me = e.platform.stackLimits s.me := X.limits
  have hb9 : (T.setVm s.vm).me.stackBytes = s.me.stackBytes := X.bytes
  refine ⟨X.admits, X.cas, X.clock, hF, ?_, X.hears, X.method, X.code, X.here, X.tail, X.warmed, ?_, ?_, ?_⟩
  · have h := X.room
    have hU : ((T.setVm s.vm).setFrames (.invoking m args :: below)).localsInUse = s.localsInUse := by
      rw [State.localsInUse_invoking hF (meth := meth) (c := c) X.method X.code, State.localsInUse_invoking X.frames X.method X.code]
    simp only [State.hasRoom, Bool.and_eq_true, decide_eq_true_eq] at h ⊢
    obtain ⟨⟨⟨⟨h1, h2, h3, h4, h5, h6⟩, h7⟩, h8⟩, h9⟩ := h
    rw [X.frames, List.length_cons] at h2 h3
    have q1 := X.heapSize
    have q2 := X.used
    simp only [hF, hU, List.length_cons, State.stackLimits_setFrames, State.stackBytes_setFrames, hl9, hb9]
    refine ⟨⟨⟨⟨by omega, by omega, by omega, by omega, by omega, h6⟩, ?_⟩, ?_⟩, X.book⟩
    · show T.heap.size + R'.cells ≤ e.platform.maxCells
      omega
    · show T.slotsUsed + R'.slots ≤ e.platform.maxSlots
      omega
  · rw [State.stackLimits_setFrames]; rfl
  · rw [State.stackBytes_setFrames]; rfl
  · refine ⟨?_, Nat.le_refl _, Nat.le_refl _, ?_, ?_, fun a c9 h9 => ⟨c9, h9, rfl, rfl, fun _ _ => rfl⟩⟩
    · obtain ⟨t, ht, -⟩ := State.frames_cons hr
      show T.setVm s.vm = { ((T.setVm s.vm).setFrames (.invoking m args :: below)).setFrames (T.setVm s.vm).frames with heap := T.heap, slotsUsed := T.slotsUsed }
      rw [State.setFrames_setFrames, State.setFrames_self ht]
      rfl
    · show T.slotsUsed = T.slotsUsed + ((T.heap.toList.drop T.heap.size).map (·.slots.size)).sum
      rw [List.drop_eq_nil_of_le (Nat.le_of_eq Array.length_toList)]
      rfl
    · show ((T.heap.toList.drop T.heap.size).map (·.slots.size)).sum ≤ 0
      rw [List.drop_eq_nil_of_le (Nat.le_of_eq Array.length_toList)]
      exact Nat.le_refl _
/-- 'throw new E()': new; dup; invokespecial; athrow -/
theorem vx_throw0 {cc : ByteArray} {pc : Nat} (hexec : p.tables.exec = Jvm.exec) (hb : c.code = cc) (hl : l.stackTraces = false) {own cls : String} {names : List String} {ik ic mc ms : Nat} {A : Nat → Prop}
    (hown : s.vm.findClass own = some m.cls) (hcls : Bundle.fit cls = true) (hnames : ∀ n ∈ names, Bundle.fit n = true)
    (hk : (Cond.classLink own ik cls).before args s = true) (hini : (Cond.initialized cls).before args s = true) (hat : ∀ w ∈ vx_at0 own ic cls names, w.before args s = true)
    (hgood : ∀ w ∈ Cond.classLink own ik cls :: Cond.initialized cls :: vx_at0 own ic cls names, vx_ot w = true)
    (hU : vx_Zq Bundle.tN "UNASSIGNED_STACK" Bundle.steD A s s.heap) (hN : vx_Zq Bundle.tN "SUPPRESSED_SENTINEL" Bundle.listD A s s.heap) (hS : va_S A s.heap H locs) (hsize : ls.size = c.maxLocals)
    (d0 : decode cc pc = .ok (.new ik, 3)) (d3 : decode cc (pc + 3) = .ok (.dup, 1)) (d4 : decode cc (pc + 4) = .ok (.invokespecial ic, 3)) (d7 : decode cc (pc + 7) = .ok (.athrow, 1))
    (hout : ∀ x ∈ c.exceptionTable.toList, covers x (pc + 7) = false)
    (hRframes : names.length + 3 < R.frames) (hRlocals : (rest.map fun v => v.category).sum + (13 * (names.length + 1) + 42) ≤ R.locals) (hRcells : cells + 1 ≤ R.cells) (hRslots : slots + 6 ≤ R.slots) (hlocks : meth.locks = false)
    (hx : ∀ t : State, s.vm.Alike t.vm → H.size ≤ t.heap.size → (∀ q : Nat, q < H.size → t.heap[q]? = H[q]?) → XC cls s t)
    (hf : ∀ z ∈ locs, free z.base) (hc : cells + 1 ≤ mc) (hs : slots + 6 ≤ ms) :
    W p l e R s m args below meth c H locs cells slots (vx_MQ below Qc XC args s mc ms free) (F0 m pc ls rest) := by
  intro T hT X
  have htr : e.platform.stackTraces = false := (show e.platform.stackTraces = l.stackTraces by rw [X.admits.platform]).trans hl
  have Y := vx_rebase X (R' := { frames := R.frames, locals := R.locals, cells := 1, slots := 6 }) (Nat.le_refl _) (Nat.le_refl _) hRcells hRslots
  obtain ⟨s', hA⟩ : ∃ z, z = (T.setVm s.vm).setFrames (.invoking m args :: below) := ⟨_, rfl⟩
  rw [← hA] at Y
  have hvm : s'.vm = s.vm := by rw [hA]; rfl
  have hhp : s'.heap = H := by rw [hA]; exact hT
  have hW0 : s.WarmedH s'.vm := by rw [hvm]; exact State.WarmedH.refl s
  have hat' : ∀ w ∈ vx_at0 own ic cls names, w.before args s' = true := fun w hw => vx_ot_at hW0 hvm.symm (hgood w (List.mem_cons_of_mem _ (List.mem_cons_of_mem _ hw))) (hat w hw)
  have hk' : (Cond.classLink own ik cls).before args s' = true := vx_ot_at hW0 hvm.symm (hgood _ List.mem_cons_self) hk
  have hini' : (Cond.initialized cls).before args s' = true := vx_ot_at hW0 hvm.symm (hgood _ (List.mem_cons_of_mem _ List.mem_cons_self)) hini
  have hU' : vx_Zq Bundle.tN "UNASSIGNED_STACK" Bundle.steD A s' s'.heap := by rw [hhp]; exact vx_Zq.moved hW0.alike (hU.kept hS.2.1)
  have hN' : vx_Zq Bundle.tN "SUPPRESSED_SENTINEL" Bundle.listD A s' s'.heap := by rw [hhp]; exact vx_Zq.moved hW0.alike (hN.kept hS.2.1)
  have h : ∀ w ∈ Bundle.ownAtoms0 own ic cls names, w.before args s' = true := vx_own hat' (vx_isRefq hU'.1) (vx_isRefq hN'.1) hU'.2.word hN'.2.word
  have hown' : s'.vm.findClass own = some m.cls := by rw [hvm]; exact hown
  have hins : (Cond.instantiable cls 6).before args s' = true := h _ (by simp [Bundle.ownAtoms0])
  obtain ⟨vm₁, cX, kX, hfX, hkX, -, -, X₁, st1⟩ := Y.newCold hexec (own := own) (C := cls) (index := ik) (n := 6) hown' hk' hins hini'
    (g := F0 m pc ls rest) rfl (by rw [hb]; exact d0) (Nat.le_refl _) (Nat.le_refl _)
  generalize hT1 : (T.setVm vm₁).pushCell { cls := cX, slots := kX.instanceTypes.map defaultValue, vm := .none } = T1 at X₁ st1
  have hcat : (Value.ref T.heap.size).category = 1 := rfl
  have hcellA : T1.heap[T.heap.size]? = some (freshCell cX kX) := by rw [← hT1]; exact State.heap_pushCell_size _ _
  have d3' : decode c.code (pc + 3) = .ok (.dup, 1) := by rw [hb]; exact d3
  obtain ⟨U, hsteps, hrun, hend, hW, hsame, ce, hce, hO⟩ := X₁.ctorThrow0 hexec htr (own := own) (cls := cls) (names := names) (ic := ic) hown' hcls hnames h (fun x hx => nomatch hx) hfX hkX hcellA (by rw [hhp, hT]; exact Nat.le_refl _)
    (g := { method := m, pc := pc + 4, locals := ls, stack := .ref T.heap.size :: .ref T.heap.size :: rest, locked := none }) rfl hsize rfl rfl (rest := rest) rfl
    (by rw [hb]; exact d4) (by rw [hb]; exact d7) hout hRframes (by simp only [List.map_cons, List.sum_cons, hcat]; omega) hlocks
  obtain ⟨f1, f2⟩ := vx_frame hsame
  rw [hhp] at f1 f2
  have hWs : s.WarmedH U.vm := State.WarmedH.trans hW0 hW
  have hcl : s.vm.findClass cls = some ce.cls := by
    have h9 := hO.cls
    rw [hvm] at h9
    exact h9
  have hall : s.sameButNew ({ U with vm := s.vm } : State) locs mc ms := by
    subst hA
    obtain ⟨e1, e2⟩ := hsame
    rw [State.setFrames_setFrames] at e1
    have h2 : (T.setVm s.vm).sameButNew ({ U with vm := s.vm } : State) [] (0 + 1) (0 + 6) := ⟨e1, e2⟩
    have h3 := X.same.trans h2
    rw [List.append_nil] at h3
    exact h3.mono hc hs
  refine ⟨U, ?_, .threw T.heap.size, hrun, hend, Or.inr ⟨T.heap.size, rfl, cls, ce, locs, hx U hWs.alike f1 (fun q hq => f2 q hq (fun z hz => nomatch hz)), hce, hO.vm, hcl, hWs, hall, hf⟩⟩
  refine st1 _ ?_
  show Steps p.tables e below (T1.setTop { method := m, pc := pc + 3, locals := ls, stack := .ref T.heap.size :: rest, locked := none }) _
  jvm_step X₁.here [X₁.here.top, hexec, d3', Value.category]
  exact hsteps
/-- 'throw new E("text")': new; dup; ldc; invokespecial; athrow -/
theorem vx_throwS {cc : ByteArray} {pc : Nat} (hexec : p.tables.exec = Jvm.exec) (hb : c.code = cc) (hl : l.stackTraces = false) {own cls text : String} {names : List String} {ik is ic mc ms sa : Nat} {A : Nat → Prop}
    (hown : s.vm.findClass own = some m.cls) (hcls : Bundle.fit cls = true) (hnames : ∀ n ∈ names, Bundle.fit n = true)
    (hk : (Cond.classLink own ik cls).before args s = true) (hini : (Cond.initialized cls).before args s = true) (hstr : vk_R own is text sa s) (hat : ∀ w ∈ vx_atS own ic cls names, w.before args s = true)
    (hgood : ∀ w ∈ Cond.classLink own ik cls :: Cond.initialized cls :: vx_atS own ic cls names, vx_ot w = true)
    (hU : vx_Zq Bundle.tN "UNASSIGNED_STACK" Bundle.steD A s s.heap) (hN : vx_Zq Bundle.tN "SUPPRESSED_SENTINEL" Bundle.listD A s s.heap) (hS : va_S A s.heap H locs) (hsize : ls.size = c.maxLocals)
    (d0 : decode cc pc = .ok (.new ik, 3)) (d3 : decode cc (pc + 3) = .ok (.dup, 1)) (d4 : decode cc (pc + 4) = .ok (.ldc is, 2)) (d6 : decode cc (pc + 6) = .ok (.invokespecial ic, 3)) (d9 : decode cc (pc + 9) = .ok (.athrow, 1))
    (hout : ∀ x ∈ c.exceptionTable.toList, covers x (pc + 9) = false)
    (hRframes : names.length + 3 < R.frames) (hRlocals : (rest.map fun v => v.category).sum + (13 * (names.length + 1) + 43) ≤ R.locals) (hRcells : cells + 1 ≤ R.cells) (hRslots : slots + 6 ≤ R.slots) (hlocks : meth.locks = false)
    (hx : ∀ t : State, s.vm.Alike t.vm → H.size ≤ t.heap.size → (∀ q : Nat, q < H.size → t.heap[q]? = H[q]?) → XC cls s t)
    (hf : ∀ z ∈ locs, free z.base) (hc : cells + 1 ≤ mc) (hs : slots + 6 ≤ ms) :
    W p l e R s m args below meth c H locs cells slots (vx_MQ below Qc XC args s mc ms free) (F0 m pc ls rest) := by
  intro T hT X
  have htr : e.platform.stackTraces = false := (show e.platform.stackTraces = l.stackTraces by rw [X.admits.platform]).trans hl
  have Y := vx_rebase X (R' := { frames := R.frames, locals := R.locals, cells := 1, slots := 6 }) (Nat.le_refl _) (Nat.le_refl _) hRcells hRslots
  obtain ⟨s', hA⟩ : ∃ z, z = (T.setVm s.vm).setFrames (.invoking m args :: below) := ⟨_, rfl⟩
  rw [← hA] at Y
  have hvm : s'.vm = s.vm := by rw [hA]; rfl
  have hhp : s'.heap = H := by rw [hA]; exact hT
  have hW0 : s.WarmedH s'.vm := by rw [hvm]; exact State.WarmedH.refl s
  have hat' : ∀ w ∈ vx_atS own ic cls names, w.before args s' = true := fun w hw => vx_ot_at hW0 hvm.symm (hgood w (List.mem_cons_of_mem _ (List.mem_cons_of_mem _ hw))) (hat w hw)
  have hk' : (Cond.classLink own ik cls).before args s' = true := vx_ot_at hW0 hvm.symm (hgood _ List.mem_cons_self) hk
  have hini' : (Cond.initialized cls).before args s' = true := vx_ot_at hW0 hvm.symm (hgood _ (List.mem_cons_of_mem _ List.mem_cons_self)) hini
  have hU' : vx_Zq Bundle.tN "UNASSIGNED_STACK" Bundle.steD A s' s'.heap := by rw [hhp]; exact vx_Zq.moved hW0.alike (hU.kept hS.2.1)
  have hN' : vx_Zq Bundle.tN "SUPPRESSED_SENTINEL" Bundle.listD A s' s'.heap := by rw [hhp]; exact vx_Zq.moved hW0.alike (hN.kept hS.2.1)
  have h : ∀ w ∈ Bundle.ownAtoms own ic cls names, w.before args s' = true := vx_own hat' (vx_isRefq hU'.1) (vx_isRefq hN'.1) hU'.2.word hN'.2.word
  have hown' : s'.vm.findClass own = some m.cls := by rw [hvm]; exact hown
  have hins : (Cond.instantiable cls 6).before args s' = true := h _ (by simp [Bundle.ownAtoms])
  obtain ⟨vm₁, cX, kX, hfX, hkX, -, -, X₁, st1⟩ := Y.newCold hexec (own := own) (C := cls) (index := ik) (n := 6) hown' hk' hins hini'
    (g := F0 m pc ls rest) rfl (by rw [hb]; exact d0) (Nat.le_refl _) (Nat.le_refl _)
  generalize hT1 : (T.setVm vm₁).pushCell { cls := cX, slots := kX.instanceTypes.map defaultValue, vm := .none } = T1 at X₁ st1
  have hcat : (Value.ref T.heap.size).category = 1 := rfl
  have hcellA : T1.heap[T.heap.size]? = some (freshCell cX kX) := by rw [← hT1]; exact State.heap_pushCell_size _ _
  have d3' : decode c.code (pc + 3) = .ok (.dup, 1) := by rw [hb]; exact d3
  have d4' : decode c.code (pc + 4) = .ok (.ldc is, 2) := by rw [hb]; exact d4
  have hstr' : vk_R own is text sa s' := vk_R.warm hW0 hstr
  obtain ⟨U, hsteps, hrun, hend, hW, hsame, ce, hce, hO⟩ := X₁.ctorThrowS hexec htr (own := own) (cls := cls) (names := names) (ic := ic) hown' hcls hnames h (fun x hx => nomatch hx) hfX hkX hcellA (by rw [hhp, hT]; exact Nat.le_refl _) (msg := .ref sa) rfl
    (g := { method := m, pc := pc + 6, locals := ls, stack := .ref sa :: .ref T.heap.size :: .ref T.heap.size :: rest, locked := none }) rfl hsize rfl rfl (rest := rest) rfl
    (by rw [hb]; exact d6) (by rw [hb]; exact d9) hout hRframes (by simp only [List.map_cons, List.sum_cons, hcat]; omega) hlocks
  obtain ⟨f1, f2⟩ := vx_frame hsame
  rw [hhp] at f1 f2
  have hWs : s.WarmedH U.vm := State.WarmedH.trans hW0 hW
  have hcl : s.vm.findClass cls = some ce.cls := by
    have h9 := hO.cls
    rw [hvm] at h9
    exact h9
  have hall : s.sameButNew ({ U with vm := s.vm } : State) locs mc ms := by
    subst hA
    obtain ⟨e1, e2⟩ := hsame
    rw [State.setFrames_setFrames] at e1
    have h2 : (T.setVm s.vm).sameButNew ({ U with vm := s.vm } : State) [] (0 + 1) (0 + 6) := ⟨e1, e2⟩
    have h3 := X.same.trans h2
    rw [List.append_nil] at h3
    exact h3.mono hc hs
  refine ⟨U, ?_, .threw T.heap.size, hrun, hend, Or.inr ⟨T.heap.size, rfl, cls, ce, locs, hx U hWs.alike f1 (fun q hq => f2 q hq (fun z hz => nomatch hz)), hce, hO.vm, hcl, hWs, hall, hf⟩⟩
  refine st1 _ ?_
  show Steps p.tables e below (T1.setTop { method := m, pc := pc + 3, locals := ls, stack := .ref T.heap.size :: rest, locked := none }) _
  jvm_step X₁.here [X₁.here.top, hexec, d3', Value.category]
  exact X₁.ldcString hexec (own := own) (text := text) (index := is) (a := sa) hown' hstr'.1 hstr'.2
    (g := { method := m, pc := pc + 4, locals := ls, stack := .ref T.heap.size :: .ref T.heap.size :: rest, locked := none }) rfl d4' _ hsteps
/-- 'throw new E("text")', the text by a wide index -/
theorem vx_throwSW {cc : ByteArray} {pc : Nat} (hexec : p.tables.exec = Jvm.exec) (hb : c.code = cc) (hl : l.stackTraces = false) {own cls text : String} {names : List String} {ik is ic mc ms sa : Nat} {A : Nat → Prop}
    (hown : s.vm.findClass own = some m.cls) (hcls : Bundle.fit cls = true) (hnames : ∀ n ∈ names, Bundle.fit n = true)
    (hk : (Cond.classLink own ik cls).before args s = true) (hini : (Cond.initialized cls).before args s = true) (hstr : vk_R own is text sa s) (hat : ∀ w ∈ vx_atS own ic cls names, w.before args s = true)
    (hgood : ∀ w ∈ Cond.classLink own ik cls :: Cond.initialized cls :: vx_atS own ic cls names, vx_ot w = true)
    (hU : vx_Zq Bundle.tN "UNASSIGNED_STACK" Bundle.steD A s s.heap) (hN : vx_Zq Bundle.tN "SUPPRESSED_SENTINEL" Bundle.listD A s s.heap) (hS : va_S A s.heap H locs) (hsize : ls.size = c.maxLocals)
    (d0 : decode cc pc = .ok (.new ik, 3)) (d3 : decode cc (pc + 3) = .ok (.dup, 1)) (d4 : decode cc (pc + 4) = .ok (.ldc_w is, 3)) (d7 : decode cc (pc + 7) = .ok (.invokespecial ic, 3)) (d10 : decode cc (pc + 10) = .ok (.athrow, 1))
    (hout : ∀ x ∈ c.exceptionTable.toList, covers x (pc + 10) = false)
    (hRframes : names.length + 3 < R.frames) (hRlocals : (rest.map fun v => v.category).sum + (13 * (names.length + 1) + 43) ≤ R.locals) (hRcells : cells + 1 ≤ R.cells) (hRslots : slots + 6 ≤ R.slots) (hlocks : meth.locks = false)
    (hx : ∀ t : State, s.vm.Alike t.vm → H.size ≤ t.heap.size → (∀ q : Nat, q < H.size → t.heap[q]? = H[q]?) → XC cls s t)
    (hf : ∀ z ∈ locs, free z.base) (hc : cells + 1 ≤ mc) (hs : slots + 6 ≤ ms) :
    W p l e R s m args below meth c H locs cells slots (vx_MQ below Qc XC args s mc ms free) (F0 m pc ls rest) := by
  intro T hT X
  have htr : e.platform.stackTraces = false := (show e.platform.stackTraces = l.stackTraces by rw [X.admits.platform]).trans hl
  have Y := vx_rebase X (R' := { frames := R.frames, locals := R.locals, cells := 1, slots := 6 }) (Nat.le_refl _) (Nat.le_refl _) hRcells hRslots
  obtain ⟨s', hA⟩ : ∃ z, z = (T.setVm s.vm).setFrames (.invoking m args :: below) := ⟨_, rfl⟩
  rw [← hA] at Y
  have hvm : s'.vm = s.vm := by rw [hA]; rfl
  have hhp : s'.heap = H := by rw [hA]; exact hT
  have hW0 : s.WarmedH s'.vm := by rw [hvm]; exact State.WarmedH.refl s
  have hat' : ∀ w ∈ vx_atS own ic cls names, w.before args s' = true := fun w hw => vx_ot_at hW0 hvm.symm (hgood w (List.mem_cons_of_mem _ (List.mem_cons_of_mem _ hw))) (hat w hw)
  have hk' : (Cond.classLink own ik cls).before args s' = true := vx_ot_at hW0 hvm.symm (hgood _ List.mem_cons_self) hk
  have hini' : (Cond.initialized cls).before args s' = true := vx_ot_at hW0 hvm.symm (hgood _ (List.mem_cons_of_mem _ List.mem_cons_self)) hini
  have hU' : vx_Zq Bundle.tN "UNASSIGNED_STACK" Bundle.steD A s' s'.heap := by rw [hhp]; exact vx_Zq.moved hW0.alike (hU.kept hS.2.1)
  have hN' : vx_Zq Bundle.tN "SUPPRESSED_SENTINEL" Bundle.listD A s' s'.heap := by rw [hhp]; exact vx_Zq.moved hW0.alike (hN.kept hS.2.1)
  have h : ∀ w ∈ Bundle.ownAtoms own ic cls names, w.before args s' = true := vx_own hat' (vx_isRefq hU'.1) (vx_isRefq hN'.1) hU'.2.word hN'.2.word
  have hown' : s'.vm.findClass own = some m.cls := by rw [hvm]; exact hown
  have hins : (Cond.instantiable cls 6).before args s' = true := h _ (by simp [Bundle.ownAtoms])
  obtain ⟨vm₁, cX, kX, hfX, hkX, -, -, X₁, st1⟩ := Y.newCold hexec (own := own) (C := cls) (index := ik) (n := 6) hown' hk' hins hini'
    (g := F0 m pc ls rest) rfl (by rw [hb]; exact d0) (Nat.le_refl _) (Nat.le_refl _)
  generalize hT1 : (T.setVm vm₁).pushCell { cls := cX, slots := kX.instanceTypes.map defaultValue, vm := .none } = T1 at X₁ st1
  have hcat : (Value.ref T.heap.size).category = 1 := rfl
  have hcellA : T1.heap[T.heap.size]? = some (freshCell cX kX) := by rw [← hT1]; exact State.heap_pushCell_size _ _
  have d3' : decode c.code (pc + 3) = .ok (.dup, 1) := by rw [hb]; exact d3
  have d4' : decode c.code (pc + 4) = .ok (.ldc_w is, 3) := by rw [hb]; exact d4
  have hstr' : vk_R own is text sa s' := vk_R.warm hW0 hstr
  obtain ⟨U, hsteps, hrun, hend, hW, hsame, ce, hce, hO⟩ := X₁.ctorThrowS hexec htr (own := own) (cls := cls) (names := names) (ic := ic) hown' hcls hnames h (fun x hx => nomatch hx) hfX hkX hcellA (by rw [hhp, hT]; exact Nat.le_refl _) (msg := .ref sa) rfl
    (g := { method := m, pc := pc + 7, locals := ls, stack := .ref sa :: .ref T.heap.size :: .ref T.heap.size :: rest, locked := none }) rfl hsize rfl rfl (rest := rest) rfl
    (by rw [hb]; exact d7) (by rw [hb]; exact d10) hout hRframes (by simp only [List.map_cons, List.sum_cons, hcat]; omega) hlocks
  obtain ⟨f1, f2⟩ := vx_frame hsame
  rw [hhp] at f1 f2
  have hWs : s.WarmedH U.vm := State.WarmedH.trans hW0 hW
  have hcl : s.vm.findClass cls = some ce.cls := by
    have h9 := hO.cls
    rw [hvm] at h9
    exact h9
  have hall : s.sameButNew ({ U with vm := s.vm } : State) locs mc ms := by
    subst hA
    obtain ⟨e1, e2⟩ := hsame
    rw [State.setFrames_setFrames] at e1
    have h2 : (T.setVm s.vm).sameButNew ({ U with vm := s.vm } : State) [] (0 + 1) (0 + 6) := ⟨e1, e2⟩
    have h3 := X.same.trans h2
    rw [List.append_nil] at h3
    exact h3.mono hc hs
  refine ⟨U, ?_, .threw T.heap.size, hrun, hend, Or.inr ⟨T.heap.size, rfl, cls, ce, locs, hx U hWs.alike f1 (fun q hq => f2 q hq (fun z hz => nomatch hz)), hce, hO.vm, hcl, hWs, hall, hf⟩⟩
  refine st1 _ ?_
  show Steps p.tables e below (T1.setTop { method := m, pc := pc + 3, locals := ls, stack := .ref T.heap.size :: rest, locked := none }) _
  jvm_step X₁.here [X₁.here.top, hexec, d3', Value.category]
  exact X₁.ldcStringW hexec (own := own) (text := text) (index := is) (a := sa) hown' hstr'.1 hstr'.2
    (g := { method := m, pc := pc + 4, locals := ls, stack := .ref T.heap.size :: .ref T.heap.size :: rest, locked := none }) rfl d4' _ hsteps
end Ends
section Bodies
variable {l : Launch}
theorem vx_ofW {y : MethodName} {ws ws' : List Cond} {rm : Room} {Pc : Array Value → State → Prop} {Qc : Array Value → State → Outcome → State → Prop} {XC : String → State → State → Prop} {mc ms : Nat} {free : Addr → Prop} {cc : ByteArray} {maxL : Nat} {ret : Option FieldType}
    (hy : plainName y.cls = true) (hw : ws = Cond.code y cc maxL ret :: ws')
    (body : ∀ p e s m args below meth c s₁, BodyLoose p l y (headSpec ws rm) cc maxL ret e s m args below meth c s₁ → c.maxLocals = maxL → (∀ x ∈ c.exceptionTable.toList, False) → Pc args s →
      W p l e (headSpec ws rm).room s m args below meth c s.heap [] 0 0 (vx_MQ below Qc XC args s mc ms free) (entryFrame m args maxL)) : vx_Met l y ws rm Pc Qc XC mc ms free := by
  refine MetFree.of_bodyS (code := cc) (maxLocals := maxL) (ret := ret) hy ?_ ?_
  · intro args s m h hn
    obtain ⟨meth, c, h1, h2, h3, h4, h5, h6, -, -⟩ := Cond.code_spec hn (atoms_spec (ws := ws) h _ (by rw [hw]; exact List.mem_cons_self))
    exact ⟨meth, c, h1, h2, h3, h4, h5, h6⟩
  · intro p e s m args below meth c s₁ B hml hP _
    have hh0 : s₁.heap = s.heap := by rw [B.state]; rfl
    have ht : ∀ x ∈ c.exceptionTable.toList, False := by
      obtain ⟨meth9, c9, h1, h2, -, -, -, -, h7, -⟩ := Cond.code_spec B.named (atoms_spec (ws := ws) B.pre _ (by rw [hw]; exact List.mem_cons_self))
      cases Option.some.inj (h1.symm.trans B.method)
      cases Option.some.inj (h2.symm.trans (Stand.of_body B).code)
      intro x hx
      rw [Array.isEmpty_iff.mp h7] at hx
      cases hx
    obtain ⟨t, a1, o, b1, b2, b3⟩ := body p e s m args below meth c s₁ B hml ht hP s₁ hh0 (Stand.of_body B)
    exact ⟨t, o, a1, b1, b2, b3⟩
/-- the table of a body with handlers -/
theorem vx_table {p : Program} {x y : MethodName} {S : Spec} {cc bytes : ByteArray} {maxL maxL' : Nat} {ret ret' : Option FieldType} {e : Env} {s s₁ : State} {m : MethodId} {args : Array Value} {below : List Frame} {meth : Method} {c : Code} {hh : List (Nat × Nat × Nat × Nat)}
    (B : BodyLoose p l y S cc maxL ret e s m args below meth c s₁) (h : (Cond.codeWith y bytes maxL' ret' hh).before args s = true) : c.exceptionTable.toList = tableOf hh := by
  obtain ⟨m9, meth9, c9, hn9, h1, h2, -, -, h6, -⟩ := Cond.codeWith_spec h
  cases Option.some.inj (hn9.symm.trans B.named)
  cases Option.some.inj (h1.symm.trans B.method)
  cases Option.some.inj (h2.symm.trans (Stand.of_body B).code)
  rw [← h6, table_eq]
end Bodies
end VXA
/-! ===== END ===== -/
/-! ===== BEGIN a static call of a method with an exception table ===== -/
section VXS
variable {p : Program} {l : Launch} {e : Env} {R : Room} {s : State} {m : MethodId} {args : Array Value} {below : List Frame} {meth : Method} {c : Code} {T : State} {H : Heap} {locs : List Loc} {cells slots : Nat}
abbrev vx_CSW (R : Room) (s : State) (args : Array Value) (own : String) (index : Nat) (y : MethodName) (bytes : ByteArray) (maxL : Nat) (ret : Option FieldType) (hh : List (Nat × Nat × Nat × Nat)) (ws : List Cond) (rm : Room) (mc ms n : Nat) : Prop :=
  (rm.cells = mc ∧ rm.slots = ms ∧ rm.frames + 1 ≤ R.frames ∧ 8 + (maxL + 11) + rm.locals ≤ R.locals ∧ (∀ w ∈ ws, ∀ (a' : Array Value) (U : State), s.WarmedH U.vm → w.before a' U = true) ∧ Cond.codeWith y bytes maxL ret hh ∈ ws) ∧
  (Cond.codeWith y bytes maxL ret hh).before args s = true ∧ (Cond.initialized y.cls).before args s = true ∧ (y.cls ≠ "java/lang/invoke/MethodHandle" ∧ y.cls ≠ "java/lang/invoke/VarHandle") ∧
  (∀ sig, parseMethodDescriptor y.desc = some sig → n = sig.parameters.length) ∧ (Cond.methodLink own index y).before args s = true ∧ (Cond.static y).before args s = true
theorem vx_cwSW {own : String} {index maxL mc ms : Nat} {y : MethodName} {bytes : ByteArray} {ret : Option FieldType} {hh : List (Nat × Nat × Nat × Nat)} {Ts ws ws' : List Cond} {rm : Room} (n : Nat) (ht : ∀ w ∈ Ts, w.before args s = true) (hT : GoodIn Ts (va_wsS own index y ws)) (hw : ws = Cond.codeWith y bytes maxL ret hh :: ws') (hrc : rm.cells = mc) (hrs : rm.slots = ms)
    (hd : y.cls ≠ "java/lang/invoke/MethodHandle" ∧ y.cls ≠ "java/lang/invoke/VarHandle" ∧ (parseMethodDescriptor y.desc).map (fun d => d.parameters.length) = some n) (hR : rm.frames + 1 ≤ R.frames ∧ 8 + (maxL + 11) + rm.locals ≤ R.locals) :
    vx_CSW R s args own index y bytes maxL ret hh ws rm mc ms n := by
  have ok : ∀ w ∈ va_wsS own index y ws, w.before args s = true := fun w h => ht w (hT w h).1
  have hG : GoodIn Ts ws := fun w h => hT w (by unfold va_wsS; exact List.mem_append_right _ h)
  have hc : Cond.codeWith y bytes maxL ret hh ∈ ws := by rw [hw]; exact List.mem_cons_self
  refine ⟨⟨hrc, hrs, hR.1, hR.2, pay_in ht hG, hc⟩, ht _ (hG _ hc).1, ok _ (by simp [va_wsS]), ⟨hd.1, hd.2.1⟩, fun sig h => ?_, ok _ (by simp [va_wsS]), ok _ (by simp [va_wsS])⟩
  have h2 := hd.2.2
  rw [h] at h2
  exact (Option.some.inj h2).symm
theorem vx_callSW (X : Stand p l e R s m args below meth c T locs cells slots) (hexec : p.tables.exec = Jvm.exec) {own : String} {index : Nat} {y : MethodName} {bytes : ByteArray} {maxL : Nat} {ret : Option FieldType} {hh : List (Nat × Nat × Nat × Nat)}
    (hown : s.vm.findClass own = some m.cls) (hlink : (Cond.methodLink own index y).before args s = true) (hstat : (Cond.static y).before args s = true) (hinit : (Cond.initialized y.cls).before args s = true)
    (hcode : (Cond.codeWith y bytes maxL ret hh).before args s = true) (hy : y.cls ≠ "java/lang/invoke/MethodHandle" ∧ y.cls ≠ "java/lang/invoke/VarHandle")
    {W9 : Nat} {Pre : Pt → Array Value → Prop} {Post : Pt → Array Value → Option Value → Pt → Prop} (hK : Back l R p e below s args y 3 W9 Pre Post)
    {g : JFrame} (hg : g.method = m) (hsize : g.locals.size = c.maxLocals) {argsL rest : List Value} (hlen : ∀ sig, parseMethodDescriptor y.desc = some sig → argsL.length = sig.parameters.length)
    (hstack : g.stack = argsL.reverse ++ rest) (hW : 2 * g.monitorRoom + (rest.map fun v => v.category).sum ≤ W9) (hdg : decode c.code g.pc = .ok (.invokestatic index, 3))
    (hpre : ∀ vm₁, s.WarmedH vm₁ → Pre ⟨T.setVm vm₁, locs, cells, slots⟩ argsL.toArray) :
    ∃ (v : Option Value) (vm₁ : Vm) (B : Pt), s.WarmedH vm₁ ∧ Stand p l e R s m args below meth c B.U B.locs B.cells B.slots ∧ Post ⟨T.setVm vm₁, locs, cells, slots⟩ argsL.toArray v B ∧
      ∀ target, Steps p.tables e below (B.U.setTop { g with pc := g.pc + 3, stack := v.toList ++ rest }) target → Steps p.tables e below (T.setTop g) target := by
  obtain ⟨mk, methM, cM, hnamed, hmethM, -, -, -, -, -, -, hsigM⟩ := Cond.codeWith_spec hcode
  have hstatic : methM.isStatic = true := Cond.static_spec hnamed hmethM hstat
  obtain ⟨kP, hkP, -⟩ := className_of_methodNamed hnamed
  have hinitP : kP.init = .initialized := Cond.initialized_spec (findClass_of_methodNamed hnamed) hkP hinit
  obtain ⟨vm₁, X₁, hstep₁⟩ := X.invokestatic hexec hown hlink hnamed hmethM hstatic hkP hinitP hy (g := g) hg (argsL := argsL) (rest := rest) (hlen _ hsigM) hstack hdg
  obtain ⟨v, B, X', hpost, hsteps⟩ := hK m meth c ⟨T.setVm vm₁, locs, cells, slots⟩ { g with stack := rest } (.invokestatic index) mk argsL.toArray X₁ hg hsize hdg hW (X₁.named hnamed) (hpre vm₁ X₁.warmed)
  exact ⟨v, vm₁, B, X₁.warmed, X', hpost, fun target h => hstep₁ _ fun acts => by rw [doInvoke_state]; exact hsteps.trans h⟩
theorem vx_runSW {y : MethodName} {bytes cc : ByteArray} {maxL nL mc ms n index : Nat} {ret : Option FieldType} {hh : List (Nat × Nat × Nat × Nat)} {ws : List Cond} {rm : Room} {Pc : Array Value → State → Prop} {Qc : Array Value → State → Outcome → State → Prop} {free : Addr → Prop} {Ts : List Cond} {own : String} {As rest : List Value} {g : JFrame}
    (S : CallFix p m c cc nL s args Ts own) (hM : Met l y ws rm Pc Qc mc ms free) (cw : vx_CSW R s args own index y bytes maxL ret hh ws rm mc ms n) (hp : PreS s H Pc As)
    (hg : g.method = m) (hn : As.length = n) (hsize : g.locals.size = nL) (hstack : g.stack = As.reverse ++ rest) (hW : 2 * g.monitorRoom + (rest.map fun v => v.category).sum ≤ 8) (hdg : decode cc g.pc = .ok (.invokestatic index, 3)) (hf : cells + mc ≤ R.cells ∧ slots + ms ≤ R.slots) :
    va_Run p l e R s m args below meth c H locs cells slots mc ms g rest (Qc As.toArray) (free) := by
  obtain ⟨⟨hrc, hrs, hfr, hlo, hws, hcw⟩, hcode, hini, hy, hlen, hl, hstt⟩ := cw
  have hK : Back l R p e below s args y 3 8 (PreOf R mc ms Pc) (PostOf Qc mc ms free) := va_backW (hh := hh) (bytes := bytes) (maxL := maxL) (ret := ret) hM hp.1 hrc hrs hfr hlo hws hcw (fun a' U hW => word_at hW (Or.inl (by first | rfl | simp [Cond.onTables, Cond.keeps, Cond.steady])) hini)
  obtain ⟨hx, hb, hml, ho, -⟩ := S
  intro T hT X
  obtain ⟨v, vm₁, ⟨U', l2, c2, s2⟩, hW₁, X', ⟨g', mk, t, L, e1, e2, hq, h1, hL, h2, h3⟩, st⟩ := vx_callSW X hx (hh := hh) (bytes := bytes) (maxL := maxL) (ret := ret) ho hl hstt hini hcode hy hK hg (hsize.trans hml.symm) (argsL := As) (rest := rest) (fun sig h => hn.trans (hlen sig h)) hstack hW (by rw [hb]; exact hdg)
    (fun vm₁ hW₁ => ⟨hf.1, hf.2, hp.2 (T.setVm vm₁) hT hW₁⟩)
  dsimp only [Pt.U, Pt.locs, Pt.cells, Pt.slots] at X' e1 e2 h1 h2 h3 st
  subst h1; subst h2; subst h3
  exact ⟨v, (T.setVm vm₁).calling g' mk As.toArray, t, U', L, hT, X', hL, e1, e2, hq, st⟩
/-- not caught here, past rows that name other classes: it goes on to the caller -/
theorem vx_outP {p : Program} {l : Launch} {e : Env} {R : Room} {s : State} {m : MethodId} {args : Array Value} {below : List Frame} {meth : Method} {c : Code} {H : Heap} {locs : List Loc} {cells slots : Nat} {free : Addr → Prop} {ls : Array Slot} {rest : List Value} {Qc : Array Value → State → Outcome → State → Prop} {XC : String → State → State → Prop}
    {pc : Nat} {own E : String} {ce : Cell} {q : Addr} {mc ms : Nat} (hown : s.vm.findClass own = some m.cls) (hlocks : meth.locks = false)
    (hpass : ∀ z ∈ c.exceptionTable.toList, covers z pc = false ∨ (z.catchType ≠ 0 ∧ ∃ nm : String, (Cond.classLink own z.catchType nm).before args s = true ∧ va_Nc E nm s)) (hcell : H[q]? = some ce) (hv : ce.vm = .none) (hcl : s.vm.findClass E = some ce.cls)
    (hx : ∀ t : State, t.heap = H → s.vm.Alike t.vm → XC E s t) (hf : ∀ z ∈ locs, free z.base) (hc : cells ≤ mc) (hs : slots ≤ ms) :
    vx_W p l e R s m args below meth c H locs cells slots (vx_MQ below Qc XC args s mc ms free) (F0 m pc ls rest) q := by
  intro T hT X
  have hpl : e.platform.magicAccessors = ({} : Platform).magicAccessors := by rw [X.admits.platform]
  obtain ⟨vm', hW', X', st⟩ := X.outThrough hlocks q (g := F0 m pc ls rest) rfl rfl rfl (cell := ce) (by rw [hT]; exact hcell) (by rw [hv]; rfl)
    (by obtain ⟨k9, h9, -⟩ := Vm.findClass_spec hcl; exact ⟨k9, h9⟩) (fun z hz => by
      rcases hpass z hz with h | ⟨hz0, nm, hl1, hn1⟩
      · exact Or.inl h
      · obtain ⟨c6, hc6, hcl6⟩ := Cond.classLink_spec hown hl1 e.platform hpl
        obtain ⟨a8, b8, h1, h2, h3⟩ := hn1
        cases Option.some.inj (h1.symm.trans hcl)
        cases Option.some.inj (h2.symm.trans hc6)
        exact Or.inr ⟨hz0, _, hcl6, h3⟩)
  obtain ⟨g₀, hfr⟩ := X'.frames_eq
  have hcell9 : ((T.setVm vm').setFrames (.throwing q :: below)).heap[q]? = some ce := by
    show T.heap[q]? = some ce
    rw [hT]; exact hcell
  have hend : Ended ((T.setVm vm').setFrames (.throwing q :: below)) below (.threw q) := State.frames_setFrames _ (State.cur_lt_of_frames hfr)
  refine ⟨(T.setVm vm').setFrames (.throwing q :: below), ?_, .threw q, X'.here.running, hend, Or.inr ⟨q, rfl, E, ce, locs, hx _ hT (X'.ends _).1.alike, hcell9, hv, hcl, (X'.ends _).1, (X'.ends _).2.mono hc hs, hf⟩⟩
  rw [X.pushThrowing_eq]
  exact st
/-- a thing of a world lies in the heap -/
theorem vx_lt {D : va_G} {cl : List vw_C} {ws : va_W} {H1 : Heap} (h : va_P D cl ws H1) {k : Nat} {q : Nat × va_E} (hk : ws[k]? = some q) : q.1 < H1.size := (h k q hk).lt
end VXS
/-! ===== END ===== -/
/-! ===== BEGIN methods with a table of their own: called by a name, returning or throwing ===== -/
section VXH
/-! vx_backW, vx_callVX, vx_callSX, vx_callVW, vx_runVW, vx_runVX, vx_runSX, vx_ofWH follow the same proofs as their sisters above (Free/Laws.lean, Shelf42/LK1.lean); vx_outP calls Shelf42/NT130.lean (outThrough). -/
section
variable {l : Launch} {R : Room} {p : Program} {e : Env} {below : List Frame} {s : State} {sargs : Array Value} {y : MethodName} {len W9 : Nat}
theorem vx_backW {ws : List Cond} {rm : Room} {Pc : Array Value → State → Prop} {Qc : Array Value → State → Outcome → State → Prop} {XC : String → State → State → Prop} {mc ms : Nat} {free : Addr → Prop} {bytes : ByteArray} {maxL : Nat} {ret : Option FieldType} {hh : List (Nat × Nat × Nat × Nat)}
    (hM : vx_Met l y ws rm Pc Qc XC mc ms free) (hblind : FrameBlind Pc) (hrc : rm.cells = mc) (hrs : rm.slots = ms)
    (hframes : rm.frames + 1 ≤ R.frames) (hlocals : W9 + (maxL + 11) + rm.locals ≤ R.locals)
    (hws : ∀ w ∈ ws, ∀ a' U, s.WarmedH U.vm → w.before a' U = true) (hcode : Cond.codeWith y bytes maxL ret hh ∈ ws) (hinit : ∀ a' U, s.WarmedH U.vm → (Cond.initialized y.cls).before a' U = true) :
    vx_Back l R p e below s sargs y len W9 (PreOf R mc ms Pc) (PostOf Qc mc ms free) (vx_Post XC mc ms free) := by
  intro m meth c A g ig mk a X hg hsize hdg hW hn hp
  have h1 : (headSpec ws rm).pre.before a A.U = true := atoms_intro fun w hw => hws w hw _ _ X.warmed
  have h2 : (Cond.codeWith y bytes maxL ret hh).before a A.U = true := hws _ hcode _ _ X.warmed
  have h3 : (Cond.initialized y.cls).before a A.U = true := hinit _ _ X.warmed
  have h4 : A.cells + (headSpec ws rm).room.cells ≤ R.cells := by rw [show (headSpec ws rm).room.cells = mc from hrc]; exact hp.1
  have h5 : A.slots + (headSpec ws rm).room.slots ≤ R.slots := by rw [show (headSpec ws rm).room.slots = ms from hrs]; exact hp.2.1
  have hPc : Pc a (A.U.calling g mk a) := hblind _ _ _ _ hp.2.2
  obtain ⟨U, Ls, c0, s0⟩ := A
  dsimp only [Pt.U, Pt.locs, Pt.cells, Pt.slots] at h1 h2 h3 h4 h5 X hn hPc ⊢
  obtain ⟨m9, methY, cY, hn9, hmY, hcY, -, hlY, -⟩ := Cond.codeWith_spec h2
  cases Option.some.inj (hn9.symm.trans hn)
  obtain ⟨kY, hkY, -⟩ := className_of_methodNamed hn
  have hinitY : kY.init = .initialized := Cond.initialized_spec (findClass_of_methodNamed hn) hkY h3
  have h : At U g.method c below := by rw [hg]; exact X.here
  have hlocals9 : W9 + (maxL + 11) + (headSpec ws rm).room.locals ≤ R.locals := hlocals
  have happ : (headSpec ws rm).appliesLoose y e.platform (U.calling g mk a) = true :=
    Spec.appliesLoose_calling (g := g) h hdg hn hkY hinitY
      (X.room_calling (g := g) (R' := (headSpec ws rm).room) hsize hmY hcY hframes (by rw [hlY]; omega) h4 h5) h1
  obtain ⟨mid, hmid⟩ := h.above
  have hfr : (U.setTop g).frames = (.java g :: mid) ++ below := by rw [State.frames_setTop' g h.top, hmid]; rfl
  obtain ⟨o, s₂, hsteps, -, hend, hq⟩ := Steps.callFree hM p X.admits X.cas X.clock (acts := []) hfr happ hPc trivial
  have hq' : vx_Q Qc XC mc ms free a (U.calling g mk a) o s₂ := hq
  rw [State.frames_setTop' g h.top] at hend
  obtain ⟨g₀, hg0⟩ := Option.isSome_iff_exists.mp h.top
  obtain ⟨r, hr⟩ := State.topJava?_eq_some.mp hg0
  have hr' : (({ U with heap := s₂.heap, slotsUsed := s₂.slotsUsed } : State).setVm s₂.vm).frames = .java g₀ :: r := hr
  rcases hq' with ⟨hqc, L, hfe, hL⟩ | ⟨q, rfl, E, ce, L, hx, hce, hcv, hcl, hW₂, hsm, hL⟩
  · obtain ⟨⟨v, rfl⟩, hW₂, e2, q2, q3, q4, q5, q6⟩ := id hfe
    have e3 : s₂ = ({ (U.calling g mk a).setFrames s₂.frames with heap := s₂.heap, slotsUsed := s₂.slotsUsed } : State).setVm s₂.vm := by
      have : s₂ = ({ s₂ with vm := (U.calling g mk a).vm } : State).setVm s₂.vm := rfl
      rw [e2] at this
      exact this
    obtain ⟨c₂, i₂, len₂, hc₂, hd₂, hf₂⟩ := hend
    have hW' : U.WarmedH s₂.vm := hW₂
    have hcc : c₂ = c := by
      have h1 : s₂.code? g.method = U.code? g.method := by
        rw [State.code?_eq, State.code?_eq, hW'.alike.method?]
      exact Option.some.inj (hc₂.symm.trans (h1.trans h.code))
    subst hcc
    have hlen : len₂ = len := by rw [hdg] at hd₂; cases hd₂; rfl
    subst hlen
    have hs₂ : s₂ = (({ U with heap := s₂.heap, slotsUsed := s₂.slotsUsed } : State).setVm s₂.vm).setTop { g with pc := g.pc + len₂, stack := v.toList ++ g.stack } := by
      refine e3.trans ?_
      rw [hf₂, State.calling_eq h.top, State.setFrames_setFrames, State.setTop_of_frames _ hr', hr]
      rfl
    have hsame : U.sameButNew ({ U with heap := s₂.heap, slotsUsed := s₂.slotsUsed } : State) L mc ms := by
      refine ⟨?_, q2, q3, q4, q5, q6⟩
      obtain ⟨t, ht, -⟩ := State.frames_cons hr
      show ({ U with heap := s₂.heap, slotsUsed := s₂.slotsUsed } : State) = { U.setFrames U.frames with heap := s₂.heap, slotsUsed := s₂.slotsUsed }
      rw [State.setFrames_self ht]
    subst hg
    refine Or.inl ⟨v, ⟨(({ U with heap := s₂.heap, slotsUsed := s₂.slotsUsed } : State).setVm s₂.vm), Ls ++ L, c0 + mc, s0 + ms⟩,
      ⟨X.admits, X.cas, X.clock, X.frames, X.room, X.hears, X.method, X.code, (X.here.setHeapUsed s₂.heap s₂.slotsUsed).setVm hW'.alike, X.tail, State.WarmedH.trans X.warmed hW', X.limits, X.bytes, X.same.trans (hsame.setVm s.vm)⟩,
      ⟨g, mk, s₂, L, rfl, rfl, hqc, rfl, hL, rfl, rfl⟩, ?_⟩
    show Steps p.tables e below _ ((({ U with heap := s₂.heap, slotsUsed := s₂.slotsUsed } : State).setVm s₂.vm).setTop { g with pc := g.pc + len₂, stack := v.toList ++ g.stack })
    rw [← hs₂]
    exact hsteps
  · obtain ⟨e2, q2, q3, q4, q5, q6⟩ := id hsm
    have e3 : s₂ = ({ (U.calling g mk a).setFrames s₂.frames with heap := s₂.heap, slotsUsed := s₂.slotsUsed } : State).setVm s₂.vm := by
      have : s₂ = ({ s₂ with vm := (U.calling g mk a).vm } : State).setVm s₂.vm := rfl
      rw [e2] at this
      exact this
    have hf₂ : s₂.frames = .throwing q :: .java g :: U.frames.tail := hend
    have hW' : U.WarmedH s₂.vm := hW₂
    have hs₂ : s₂ = ((({ U with heap := s₂.heap, slotsUsed := s₂.slotsUsed } : State).setVm s₂.vm).setTop g).pushFrame (.throwing q) := by
      refine e3.trans ?_
      rw [hf₂, State.calling_eq h.top, State.setFrames_setFrames, State.pushFrame, State.frames_setTop _ hr', State.setTop_of_frames _ hr', State.setFrames_setFrames, hr]
      rfl
    have hsame : U.sameButNew ({ U with heap := s₂.heap, slotsUsed := s₂.slotsUsed } : State) L mc ms := by
      refine ⟨?_, q2, q3, q4, q5, q6⟩
      obtain ⟨t, ht, -⟩ := State.frames_cons hr
      show ({ U with heap := s₂.heap, slotsUsed := s₂.slotsUsed } : State) = { U.setFrames U.frames with heap := s₂.heap, slotsUsed := s₂.slotsUsed }
      rw [State.setFrames_self ht]
    subst hg
    refine Or.inr ⟨q, ⟨(({ U with heap := s₂.heap, slotsUsed := s₂.slotsUsed } : State).setVm s₂.vm), Ls ++ L, c0 + mc, s0 + ms⟩,
      ⟨X.admits, X.cas, X.clock, X.frames, X.room, X.hears, X.method, X.code, (X.here.setHeapUsed s₂.heap s₂.slotsUsed).setVm hW'.alike, X.tail, State.WarmedH.trans X.warmed hW', X.limits, X.bytes, X.same.trans (hsame.setVm s.vm)⟩,
      ⟨g, mk, s₂, L, E, ce, rfl, rfl, hx, hce, hcv, hcl, rfl, hL, rfl, rfl⟩, ?_⟩
    show Steps p.tables e below _ (((({ U with heap := s₂.heap, slotsUsed := s₂.slotsUsed } : State).setVm s₂.vm).setTop g).pushFrame (.throwing q))
    rw [← hs₂]
    exact hsteps
end
variable {p : Program} {l : Launch} {e : Env} {R : Room} {s : State} {m : MethodId} {args : Array Value} {below : List Frame} {meth : Method} {c : Code} {T : State} {H : Heap} {locs : List Loc} {cells slots : Nat}
theorem vx_callVX (X : Stand p l e R s m args below meth c T locs cells slots) (hexec : p.tables.exec = Jvm.exec) {own C : String} {index : Nat} {y : MethodName} {bytes : ByteArray} {maxL : Nat} {ret : Option FieldType} {hh : List (Nat × Nat × Nat × Nat)}
    (hown : s.vm.findClass own = some m.cls) (hlink : (Cond.methodLink own index y).before args s = true) (hinst : (Cond.instanceMethod y).before args s = true) (hsel : (Cond.selects C y y).before args s = true)
    (hcode : (Cond.codeWith y bytes maxL ret hh).before args s = true) (hy : y.cls ≠ "java/lang/invoke/MethodHandle" ∧ y.cls ≠ "java/lang/invoke/VarHandle")
    {W9 : Nat} {Pre : Pt → Array Value → Prop} {Post : Pt → Array Value → Option Value → Pt → Prop} {PostX : Pt → Array Value → Addr → Pt → Prop} (hK : vx_Back l R p e below s args y 3 W9 Pre Post PostX)
    {b : Addr} {cellB : Cell} (hcell : T.heap[b]? = some cellB) (hobj : cellB.vm.isStatics = false) (hcls : s.vm.findClass C = some cellB.cls)
    {g : JFrame} (hg : g.method = m) (hsize : g.locals.size = c.maxLocals) {argsL rest : List Value} (hlen : ∀ sig, parseMethodDescriptor y.desc = some sig → argsL.length = sig.parameters.length)
    (hstack : g.stack = argsL.reverse ++ .ref b :: rest) (hW : 2 * g.monitorRoom + (rest.map fun v => v.category).sum ≤ W9) (hdg : decode c.code g.pc = .ok (.invokevirtual index, 3))
    (hpre : ∀ vm₁, s.WarmedH vm₁ → Pre ⟨T.setVm vm₁, locs, cells, slots⟩ (Value.ref b :: argsL).toArray) :
    (∃ (v : Option Value) (vm₁ : Vm) (B : Pt), s.WarmedH vm₁ ∧ Stand p l e R s m args below meth c B.U B.locs B.cells B.slots ∧ Post ⟨T.setVm vm₁, locs, cells, slots⟩ (Value.ref b :: argsL).toArray v B ∧
      ∀ target, Steps p.tables e below (B.U.setTop { g with pc := g.pc + 3, stack := v.toList ++ rest }) target → Steps p.tables e below (T.setTop g) target) ∨
    (∃ (q : Addr) (vm₁ : Vm) (B : Pt), s.WarmedH vm₁ ∧ Stand p l e R s m args below meth c B.U B.locs B.cells B.slots ∧ PostX ⟨T.setVm vm₁, locs, cells, slots⟩ (Value.ref b :: argsL).toArray q B ∧
      Steps p.tables e below (T.setTop g) ((B.U.setTop { g with stack := rest }).pushFrame (.throwing q))) := by
  obtain ⟨mk, methM, hnamed, hmethM, hstM, habM⟩ := Cond.instanceMethod_spec hinst
  obtain ⟨m8, methM', cM, hn8, hmethM', -, -, -, -, -, -, hsigM⟩ := Cond.codeWith_spec hcode
  cases Option.some.inj (hn8.symm.trans hnamed)
  cases hmethM.symm.trans hmethM'
  obtain ⟨c2, r2, m2, q1, q2, q3, q4, kP, hkP, hkPi⟩ := Cond.selects_spec hsel
  cases hcls.symm.trans q1
  cases (State.methodFound?_of_named hnamed hy).symm.trans q2
  cases hnamed.symm.trans q3
  have hselP : selectMethod e.platform s.vm cellB.cls mk = .method mk := by rw [Launch.admits_selectMethod X.admits]; exact q4
  obtain ⟨vm₁, X₁, hstep₁⟩ := X.invokevirtual hexec hown hlink hnamed hmethM hstM hkP hkPi hy (a := b) (cell := cellB) hcell
    (fun z h => by rw [h] at hobj; cases hobj) hselP hmethM habM hkP hkPi (g := g) hg (argsL := argsL) (rest := rest) (hlen _ hsigM) hstack hdg
  rcases hK m meth c ⟨T.setVm vm₁, locs, cells, slots⟩ { g with stack := rest } (.invokevirtual index) mk (Value.ref b :: argsL).toArray X₁ hg hsize hdg hW (X₁.named hnamed) (hpre vm₁ X₁.warmed) with ⟨v, B, X', hpost, hsteps⟩ | ⟨q, B, X', hpost, hsteps⟩
  · exact Or.inl ⟨v, vm₁, B, X₁.warmed, X', hpost, fun target h => hstep₁ _ fun acts => by rw [doInvoke_state]; exact hsteps.trans h⟩
  · exact Or.inr ⟨q, vm₁, B, X₁.warmed, X', hpost, hstep₁ _ fun acts => by rw [doInvoke_state]; exact hsteps⟩
theorem vx_callSX (X : Stand p l e R s m args below meth c T locs cells slots) (hexec : p.tables.exec = Jvm.exec) {own : String} {index : Nat} {y : MethodName} {bytes : ByteArray} {maxL : Nat} {ret : Option FieldType} {hh : List (Nat × Nat × Nat × Nat)}
    (hown : s.vm.findClass own = some m.cls) (hlink : (Cond.methodLink own index y).before args s = true) (hstat : (Cond.static y).before args s = true) (hinit : (Cond.initialized y.cls).before args s = true)
    (hcode : (Cond.codeWith y bytes maxL ret hh).before args s = true) (hy : y.cls ≠ "java/lang/invoke/MethodHandle" ∧ y.cls ≠ "java/lang/invoke/VarHandle")
    {W9 : Nat} {Pre : Pt → Array Value → Prop} {Post : Pt → Array Value → Option Value → Pt → Prop} {PostX : Pt → Array Value → Addr → Pt → Prop} (hK : vx_Back l R p e below s args y 3 W9 Pre Post PostX)
    {g : JFrame} (hg : g.method = m) (hsize : g.locals.size = c.maxLocals) {argsL rest : List Value} (hlen : ∀ sig, parseMethodDescriptor y.desc = some sig → argsL.length = sig.parameters.length)
    (hstack : g.stack = argsL.reverse ++ rest) (hW : 2 * g.monitorRoom + (rest.map fun v => v.category).sum ≤ W9) (hdg : decode c.code g.pc = .ok (.invokestatic index, 3))
    (hpre : ∀ vm₁, s.WarmedH vm₁ → Pre ⟨T.setVm vm₁, locs, cells, slots⟩ argsL.toArray) :
    (∃ (v : Option Value) (vm₁ : Vm) (B : Pt), s.WarmedH vm₁ ∧ Stand p l e R s m args below meth c B.U B.locs B.cells B.slots ∧ Post ⟨T.setVm vm₁, locs, cells, slots⟩ argsL.toArray v B ∧
      ∀ target, Steps p.tables e below (B.U.setTop { g with pc := g.pc + 3, stack := v.toList ++ rest }) target → Steps p.tables e below (T.setTop g) target) ∨
    (∃ (q : Addr) (vm₁ : Vm) (B : Pt), s.WarmedH vm₁ ∧ Stand p l e R s m args below meth c B.U B.locs B.cells B.slots ∧ PostX ⟨T.setVm vm₁, locs, cells, slots⟩ argsL.toArray q B ∧
      Steps p.tables e below (T.setTop g) ((B.U.setTop { g with stack := rest }).pushFrame (.throwing q))) := by
  obtain ⟨mk, methM, cM, hnamed, hmethM, -, -, -, -, -, -, hsigM⟩ := Cond.codeWith_spec hcode
  have hstatic : methM.isStatic = true := Cond.static_spec hnamed hmethM hstat
  obtain ⟨kP, hkP, -⟩ := className_of_methodNamed hnamed
  have hinitP : kP.init = .initialized := Cond.initialized_spec (findClass_of_methodNamed hnamed) hkP hinit
  obtain ⟨vm₁, X₁, hstep₁⟩ := X.invokestatic hexec hown hlink hnamed hmethM hstatic hkP hinitP hy (g := g) hg (argsL := argsL) (rest := rest) (hlen _ hsigM) hstack hdg
  rcases hK m meth c ⟨T.setVm vm₁, locs, cells, slots⟩ { g with stack := rest } (.invokestatic index) mk argsL.toArray X₁ hg hsize hdg hW (X₁.named hnamed) (hpre vm₁ X₁.warmed) with ⟨v, B, X', hpost, hsteps⟩ | ⟨q, B, X', hpost, hsteps⟩
  · exact Or.inl ⟨v, vm₁, B, X₁.warmed, X', hpost, fun target h => hstep₁ _ fun acts => by rw [doInvoke_state]; exact hsteps.trans h⟩
  · exact Or.inr ⟨q, vm₁, B, X₁.warmed, X', hpost, hstep₁ _ fun acts => by rw [doInvoke_state]; exact hsteps⟩
theorem vx_callVW (X : Stand p l e R s m args below meth c T locs cells slots) (hexec : p.tables.exec = Jvm.exec) {own C : String} {index : Nat} {y : MethodName} {bytes : ByteArray} {maxL : Nat} {ret : Option FieldType} {hh : List (Nat × Nat × Nat × Nat)}
    (hown : s.vm.findClass own = some m.cls) (hlink : (Cond.methodLink own index y).before args s = true) (hinst : (Cond.instanceMethod y).before args s = true) (hsel : (Cond.selects C y y).before args s = true)
    (hcode : (Cond.codeWith y bytes maxL ret hh).before args s = true) (hy : y.cls ≠ "java/lang/invoke/MethodHandle" ∧ y.cls ≠ "java/lang/invoke/VarHandle")
    {W9 : Nat} {Pre : Pt → Array Value → Prop} {Post : Pt → Array Value → Option Value → Pt → Prop} (hK : Back l R p e below s args y 3 W9 Pre Post)
    {b : Addr} {cellB : Cell} (hcell : T.heap[b]? = some cellB) (hobj : cellB.vm.isStatics = false) (hcls : s.vm.findClass C = some cellB.cls)
    {g : JFrame} (hg : g.method = m) (hsize : g.locals.size = c.maxLocals) {argsL rest : List Value} (hlen : ∀ sig, parseMethodDescriptor y.desc = some sig → argsL.length = sig.parameters.length)
    (hstack : g.stack = argsL.reverse ++ .ref b :: rest) (hW : 2 * g.monitorRoom + (rest.map fun v => v.category).sum ≤ W9) (hdg : decode c.code g.pc = .ok (.invokevirtual index, 3))
    (hpre : ∀ vm₁, s.WarmedH vm₁ → Pre ⟨T.setVm vm₁, locs, cells, slots⟩ (Value.ref b :: argsL).toArray) :
    ∃ (v : Option Value) (vm₁ : Vm) (B : Pt), s.WarmedH vm₁ ∧ Stand p l e R s m args below meth c B.U B.locs B.cells B.slots ∧ Post ⟨T.setVm vm₁, locs, cells, slots⟩ (Value.ref b :: argsL).toArray v B ∧
      ∀ target, Steps p.tables e below (B.U.setTop { g with pc := g.pc + 3, stack := v.toList ++ rest }) target → Steps p.tables e below (T.setTop g) target := by
  obtain ⟨mk, methM, hnamed, hmethM, hstM, habM⟩ := Cond.instanceMethod_spec hinst
  obtain ⟨m8, methM', cM, hn8, hmethM', -, -, -, -, -, -, hsigM⟩ := Cond.codeWith_spec hcode
  cases Option.some.inj (hn8.symm.trans hnamed)
  cases hmethM.symm.trans hmethM'
  obtain ⟨c2, r2, m2, q1, q2, q3, q4, kP, hkP, hkPi⟩ := Cond.selects_spec hsel
  cases hcls.symm.trans q1
  cases (State.methodFound?_of_named hnamed hy).symm.trans q2
  cases hnamed.symm.trans q3
  have hselP : selectMethod e.platform s.vm cellB.cls mk = .method mk := by rw [Launch.admits_selectMethod X.admits]; exact q4
  obtain ⟨vm₁, X₁, hstep₁⟩ := X.invokevirtual hexec hown hlink hnamed hmethM hstM hkP hkPi hy (a := b) (cell := cellB) hcell
    (fun z h => by rw [h] at hobj; cases hobj) hselP hmethM habM hkP hkPi (g := g) hg (argsL := argsL) (rest := rest) (hlen _ hsigM) hstack hdg
  obtain ⟨v, B, X', hpost, hsteps⟩ := hK m meth c ⟨T.setVm vm₁, locs, cells, slots⟩ { g with stack := rest } (.invokevirtual index) mk (Value.ref b :: argsL).toArray X₁ hg hsize hdg hW (X₁.named hnamed) (hpre vm₁ X₁.warmed)
  exact ⟨v, vm₁, B, X₁.warmed, X', hpost, fun target h => hstep₁ _ fun acts => by rw [doInvoke_state]; exact hsteps.trans h⟩
abbrev vx_CVW (R : Room) (s : State) (args : Array Value) (own C : String) (index : Nat) (y : MethodName) (bytes : ByteArray) (maxL : Nat) (ret : Option FieldType) (hh : List (Nat × Nat × Nat × Nat)) (ws : List Cond) (rm : Room) (mc ms n : Nat) : Prop :=
  (rm.cells = mc ∧ rm.slots = ms ∧ rm.frames + 1 ≤ R.frames ∧ 8 + (maxL + 11) + rm.locals ≤ R.locals ∧ (∀ w ∈ ws, ∀ (a' : Array Value) (U : State), s.WarmedH U.vm → w.before a' U = true) ∧ Cond.codeWith y bytes maxL ret hh ∈ ws) ∧
  (Cond.codeWith y bytes maxL ret hh).before args s = true ∧ (Cond.initialized y.cls).before args s = true ∧ (y.cls ≠ "java/lang/invoke/MethodHandle" ∧ y.cls ≠ "java/lang/invoke/VarHandle") ∧
  (∀ sig, parseMethodDescriptor y.desc = some sig → n = sig.parameters.length) ∧ (Cond.methodLink own index y).before args s = true ∧ (Cond.instanceMethod y).before args s = true ∧ (Cond.selects C y y).before args s = true
theorem vx_cwVW {own C : String} {index maxL mc ms : Nat} {y : MethodName} {bytes : ByteArray} {ret : Option FieldType} {hh : List (Nat × Nat × Nat × Nat)} {Ts ws ws' : List Cond} {rm : Room} (n : Nat) (ht : ∀ w ∈ Ts, w.before args s = true) (hT : GoodIn Ts (wsV own index C y ws)) (hw : ws = Cond.codeWith y bytes maxL ret hh :: ws') (hrc : rm.cells = mc) (hrs : rm.slots = ms)
    (hd : y.cls = C ∧ y.cls ≠ "java/lang/invoke/MethodHandle" ∧ y.cls ≠ "java/lang/invoke/VarHandle" ∧ (parseMethodDescriptor y.desc).map (fun d => d.parameters.length) = some n) (hR : rm.frames + 1 ≤ R.frames ∧ 8 + (maxL + 11) + rm.locals ≤ R.locals) :
    vx_CVW R s args own C index y bytes maxL ret hh ws rm mc ms n := by
  obtain ⟨hC, hd⟩ := hd
  subst hC
  have ok : ∀ w ∈ wsV own index y.cls y ws, w.before args s = true := fun w h => ht w (hT w h).1
  have hG : GoodIn Ts ws := fun w h => hT w (by unfold wsV; exact List.mem_append_right _ h)
  have hc : Cond.codeWith y bytes maxL ret hh ∈ ws := by rw [hw]; exact List.mem_cons_self
  refine ⟨⟨hrc, hrs, hR.1, hR.2, pay_in ht hG, hc⟩, ht _ (hG _ hc).1, ok _ (by simp [wsV]), ⟨hd.1, hd.2.1⟩, fun sig h => ?_, ok _ (by simp [wsV]), ok _ (by simp [wsV]), ok _ (by simp [wsV])⟩
  have h2 := hd.2.2
  rw [h] at h2
  exact (Option.some.inj h2).symm
theorem vx_runVW {y : MethodName} {bytes cc : ByteArray} {maxL nL mc ms n index : Nat} {ret : Option FieldType} {hh : List (Nat × Nat × Nat × Nat)} {ws : List Cond} {rm : Room} {Pc : Array Value → State → Prop} {Qc : Array Value → State → Outcome → State → Prop} {free : Addr → Prop} {Ts : List Cond} {own C : String} {b : Addr} {As rest : List Value} {g : JFrame}
    (S : CallFix p m c cc nL s args Ts own) (hM : Met l y ws rm Pc Qc mc ms free) (cw : vx_CVW R s args own C index y bytes maxL ret hh ws rm mc ms n) (hp : PreV s H C b Pc As)
    (hg : g.method = m) (hn : As.length = n) (hsize : g.locals.size = nL) (hstack : g.stack = As.reverse ++ .ref b :: rest) (hW : 2 * g.monitorRoom + (rest.map fun v => v.category).sum ≤ 8) (hdg : decode cc g.pc = .ok (.invokevirtual index, 3)) (hf : cells + mc ≤ R.cells ∧ slots + ms ≤ R.slots) :
    va_Run p l e R s m args below meth c H locs cells slots mc ms g rest (Qc (Value.ref b :: As).toArray) free := by
  obtain ⟨⟨hrc, hrs, hfr, hlo, hws, hcw⟩, hcode, hini, hy, hlen, hl, hin, hse⟩ := cw
  have hK : Back l R p e below s args y 3 8 (PreOf R mc ms Pc) (PostOf Qc mc ms free) := va_backW (hh := hh) (bytes := bytes) (maxL := maxL) (ret := ret) hM hp.1 hrc hrs hfr hlo hws hcw (fun a' U hW => word_at hW (Or.inl (by first | rfl | simp [Cond.onTables, Cond.keeps, Cond.steady])) hini)
  obtain ⟨hx, hb, hml, ho, -⟩ := S
  obtain ⟨-, ⟨cellB, hcB, hoB, hclB⟩, hPc⟩ := hp
  intro T hT X
  obtain ⟨v, vm₁, ⟨U', l2, c2, s2⟩, hW₁, X', ⟨g', mk, t, L, e1, e2, hq, h1, hL, h2, h3⟩, st⟩ := vx_callVW X hx (C := C) (hh := hh) (bytes := bytes) (maxL := maxL) (ret := ret) ho hl hin hse hcode hy hK (by rw [hT]; exact hcB) hoB hclB hg (hsize.trans hml.symm) (argsL := As) (rest := rest) (fun sig h => hn.trans (hlen sig h)) hstack hW (by rw [hb]; exact hdg)
    (fun vm₁ hW₁ => ⟨hf.1, hf.2, hPc (T.setVm vm₁) hT hW₁⟩)
  dsimp only [Pt.U, Pt.locs, Pt.cells, Pt.slots] at X' e1 e2 h1 h2 h3 st
  subst h1; subst h2; subst h3
  exact ⟨v, (T.setVm vm₁).calling g' mk (Value.ref b :: As).toArray, t, U', L, hT, X', hL, e1, e2, hq, st⟩
section
variable {y : MethodName} {bytes cc : ByteArray} {maxL nL mc ms n index : Nat} {ret : Option FieldType} {ws : List Cond} {rm : Room} {Pc : Array Value → State → Prop} {Qc : Array Value → State → Outcome → State → Prop} {XC : String → State → State → Prop} {free : Addr → Prop} {Ts : List Cond} {own C : String} {b : Addr} {As rest : List Value} {g : JFrame}
theorem vx_runVX {hh : List (Nat × Nat × Nat × Nat)} (S : CallFix p m c cc nL s args Ts own) (hM : vx_Met l y ws rm Pc Qc XC mc ms free) (cw : vx_CVW R s args own C index y bytes maxL ret hh ws rm mc ms n) (hp : PreV s H C b Pc As)
    (hg : g.method = m) (hn : As.length = n) (hsize : g.locals.size = nL) (hstack : g.stack = As.reverse ++ .ref b :: rest) (hW : 2 * g.monitorRoom + (rest.map fun v => v.category).sum ≤ 8) (hdg : decode cc g.pc = .ok (.invokevirtual index, 3)) (hf : cells + mc ≤ R.cells ∧ slots + ms ≤ R.slots) :
    vx_Run p l e R s m args below meth c H locs cells slots mc ms g rest (Qc (Value.ref b :: As).toArray) XC free := by
  obtain ⟨⟨hrc, hrs, hfr, hlo, hws, hcw⟩, hcode, hini, hy, hlen, hl, hin, hse⟩ := cw
  have hK : vx_Back l R p e below s args y 3 8 (PreOf R mc ms Pc) (PostOf Qc mc ms free) (vx_Post XC mc ms free) := vx_backW (hh := hh) (bytes := bytes) (maxL := maxL) (ret := ret) hM hp.1 hrc hrs hfr hlo hws hcw (fun a' U hW => word_at hW (Or.inl (by first | rfl | simp [Cond.onTables, Cond.keeps, Cond.steady])) hini)
  obtain ⟨hx, hb, hml, ho, -⟩ := S
  obtain ⟨-, ⟨cellB, hcB, hoB, hclB⟩, hPc⟩ := hp
  intro T hT X
  rcases vx_callVX X hx (C := C) (hh := hh) (bytes := bytes) (maxL := maxL) (ret := ret) ho hl hin hse hcode hy hK (by rw [hT]; exact hcB) hoB hclB hg (hsize.trans hml.symm) (argsL := As) (rest := rest) (fun sig h => hn.trans (hlen sig h)) hstack hW (by rw [hb]; exact hdg)
    (fun vm₁ hW₁ => ⟨hf.1, hf.2, hPc (T.setVm vm₁) hT hW₁⟩) with ⟨v, vm₁, ⟨U', l2, c2, s2⟩, hW₁, X', ⟨g', mk, t, L, e1, e2, hq, h1, hL, h2, h3⟩, st⟩ | ⟨q, vm₁, ⟨U', l2, c2, s2⟩, hW₁, X', ⟨g', mk, t, L, E, ce, e1, e2, hq, hce, hcv, hcl, h1, hL, h2, h3⟩, st⟩
  · dsimp only [Pt.U, Pt.locs, Pt.cells, Pt.slots] at X' e1 e2 h1 h2 h3 st
    subst h1; subst h2; subst h3
    exact Or.inl ⟨v, (T.setVm vm₁).calling g' mk (Value.ref b :: As).toArray, t, U', L, hT, X', hL, e1, e2, hq, st⟩
  · dsimp only [Pt.U, Pt.locs, Pt.cells, Pt.slots] at X' e1 e2 h1 h2 h3 st hcl
    subst h1; subst h2; subst h3
    exact Or.inr ⟨q, (T.setVm vm₁).calling g' mk (Value.ref b :: As).toArray, t, U', L, E, ce, hT, X', hL, e1, e2, hq, hce, hcv, vx_cls hW₁ hcl, st⟩
theorem vx_runSX {hh : List (Nat × Nat × Nat × Nat)} (S : CallFix p m c cc nL s args Ts own) (hM : vx_Met l y ws rm Pc Qc XC mc ms free) (cw : vx_CSW R s args own index y bytes maxL ret hh ws rm mc ms n) (hp : PreS s H Pc As)
    (hg : g.method = m) (hn : As.length = n) (hsize : g.locals.size = nL) (hstack : g.stack = As.reverse ++ rest) (hW : 2 * g.monitorRoom + (rest.map fun v => v.category).sum ≤ 8) (hdg : decode cc g.pc = .ok (.invokestatic index, 3)) (hf : cells + mc ≤ R.cells ∧ slots + ms ≤ R.slots) :
    vx_Run p l e R s m args below meth c H locs cells slots mc ms g rest (Qc As.toArray) XC free := by
  obtain ⟨⟨hrc, hrs, hfr, hlo, hws, hcw⟩, hcode, hini, hy, hlen, hl, hstt⟩ := cw
  have hK : vx_Back l R p e below s args y 3 8 (PreOf R mc ms Pc) (PostOf Qc mc ms free) (vx_Post XC mc ms free) := vx_backW (hh := hh) (bytes := bytes) (maxL := maxL) (ret := ret) hM hp.1 hrc hrs hfr hlo hws hcw (fun a' U hW => word_at hW (Or.inl (by first | rfl | simp [Cond.onTables, Cond.keeps, Cond.steady])) hini)
  obtain ⟨hx, hb, hml, ho, -⟩ := S
  intro T hT X
  rcases vx_callSX X hx (hh := hh) (bytes := bytes) (maxL := maxL) (ret := ret) ho hl hstt hini hcode hy hK hg (hsize.trans hml.symm) (argsL := As) (rest := rest) (fun sig h => hn.trans (hlen sig h)) hstack hW (by rw [hb]; exact hdg)
    (fun vm₁ hW₁ => ⟨hf.1, hf.2, hp.2 (T.setVm vm₁) hT hW₁⟩) with ⟨v, vm₁, ⟨U', l2, c2, s2⟩, hW₁, X', ⟨g', mk, t, L, e1, e2, hq, h1, hL, h2, h3⟩, st⟩ | ⟨q, vm₁, ⟨U', l2, c2, s2⟩, hW₁, X', ⟨g', mk, t, L, E, ce, e1, e2, hq, hce, hcv, hcl, h1, hL, h2, h3⟩, st⟩
  · dsimp only [Pt.U, Pt.locs, Pt.cells, Pt.slots] at X' e1 e2 h1 h2 h3 st
    subst h1; subst h2; subst h3
    exact Or.inl ⟨v, (T.setVm vm₁).calling g' mk As.toArray, t, U', L, hT, X', hL, e1, e2, hq, st⟩
  · dsimp only [Pt.U, Pt.locs, Pt.cells, Pt.slots] at X' e1 e2 h1 h2 h3 st hcl
    subst h1; subst h2; subst h3
    exact Or.inr ⟨q, (T.setVm vm₁).calling g' mk As.toArray, t, U', L, E, ce, hT, X', hL, e1, e2, hq, hce, hcv, vx_cls hW₁ hcl, st⟩
end
end VXH
theorem vx_ofWH {l : Launch} {y : MethodName} {ws ws' : List Cond} {rm : Room} {Pc : Array Value → State → Prop} {Qc : Array Value → State → Outcome → State → Prop} {XC : String → State → State → Prop} {mc ms : Nat} {free : Addr → Prop} {cc : ByteArray} {maxL : Nat} {ret : Option FieldType} {hh : List (Nat × Nat × Nat × Nat)}
    (hy : plainName y.cls = true) (hw : ws = Cond.codeWith y cc maxL ret hh :: ws')
    (body : ∀ p e s m args below meth c s₁, BodyLoose p l y (headSpec ws rm) cc maxL ret e s m args below meth c s₁ → c.maxLocals = maxL → Pc args s →
      W p l e (headSpec ws rm).room s m args below meth c s.heap [] 0 0 (vx_MQ below Qc XC args s mc ms free) (entryFrame m args maxL)) : vx_Met l y ws rm Pc Qc XC mc ms free := by
  refine MetFree.of_bodyS (code := cc) (maxLocals := maxL) (ret := ret) hy ?_ ?_
  · intro args s m h hn
    obtain ⟨m9, meth, c, hn9, h1, h2, h3, h4, -, h5, h6, -⟩ := Cond.codeWith_spec (atoms_spec (ws := ws) h _ (by rw [hw]; exact List.mem_cons_self))
    cases hn.symm.trans hn9
    exact ⟨meth, c, h1, h2, h3, h4, h5, h6⟩
  · intro p e s m args below meth c s₁ B hml hP _
    have hh0 : s₁.heap = s.heap := by rw [B.state]; rfl
    obtain ⟨t, a1, o, b1, b2, b3⟩ := body p e s m args below meth c s₁ B hml hP s₁ hh0 (Stand.of_body B)
    exact ⟨t, o, a1, b1, b2, b3⟩
/-! ===== END ===== -/
end
section
/-! ===== BEGIN printed: names, fields, word lists, decode rows ===== -/
def RX0 : String := "PartSketch$Axis"
def TX0 : u_T := fun k => match k with
  | 0 => ("PartSketch$Axis", "hint", "[I", true)
  | 1 => ("PartSketch$Axis", "freeGroups", "I", false)
  | 2 => ("PartSketch$Axis", "group", "[I", true)
  | _ => ("PartSketch$Axis", "place", "[I", true)
def tyX0 : Nat → FieldType := fun k => match k with
  | 0 => .array .int
  | 1 => .int
  | 2 => .array .int
  | _ => .array .int
abbrev wsX00 : List Cond := u_ws RX0 TX0 4
theorem nmX0 : ∀ a, a < 4 → ∀ b, b < 4 → a ≠ b → (TX0 a).2.1 ≠ (TX0 b).2.1 := by decide +kernel
theorem tyX0_ok : ∀ k, k < 4 → parseFieldDescriptor (TX0 k).2.2.1 = some (tyX0 k) := by decide +kernel
abbrev cX0_init : ByteArray := prog_2_method_1_code
def yX0_init : MethodName := ⟨RX0, "<init>", "()V"⟩
abbrev cX0_loosen : ByteArray := prog_2_method_2_code
def yX0_loosen : MethodName := ⟨RX0, "loosen", "()V"⟩
abbrev cX0_judge : ByteArray := prog_2_method_3_code
def yX0_judge : MethodName := ⟨RX0, "judge", "(III)I"⟩
abbrev cX0_join : ByteArray := prog_2_method_4_code
def yX0_join : MethodName := ⟨RX0, "join", "(III)V"⟩
abbrev cX0_pinFreeGroups : ByteArray := prog_2_method_5_code
def yX0_pinFreeGroups : MethodName := ⟨RX0, "pinFreeGroups", "(I)V"⟩
abbrev cX0_placeOf : ByteArray := prog_2_method_6_code
def yX0_placeOf : MethodName := ⟨RX0, "placeOf", "(I)I"⟩
def RX1 : String := "PartSketch$Block"
def TX1 : u_T := fun k => match k with
  | 0 => ("PartSketch$Block", "one", "I", false)
  | 1 => ("PartSketch$Block", "other", "I", false)
  | 2 => ("PartSketch$Block", "depth", "I", false)
  | 3 => ("PartSketch$Block", "outer", "LPartSketch$Block;", false)
  | 4 => ("PartSketch$Block", "left", "I", false)
  | 5 => ("PartSketch$Block", "right", "I", false)
  | 6 => ("PartSketch$Block", "low", "I", false)
  | 7 => ("PartSketch$Block", "high", "I", false)
  | 8 => ("PartSketch$Block", "bottom", "I", false)
  | _ => ("PartSketch$Block", "failing", "Z", false)
def tyX1 : Nat → FieldType := fun k => match k with
  | 0 => .int
  | 1 => .int
  | 2 => .int
  | 3 => .object "PartSketch$Block"
  | 4 => .int
  | 5 => .int
  | 6 => .int
  | 7 => .int
  | 8 => .int
  | _ => .boolean
abbrev wsX10 : List Cond := u_ws RX1 TX1 10
theorem nmX1 : ∀ a, a < 10 → ∀ b, b < 10 → a ≠ b → (TX1 a).2.1 ≠ (TX1 b).2.1 := by decide +kernel
theorem tyX1_ok : ∀ k, k < 10 → parseFieldDescriptor (TX1 k).2.2.1 = some (tyX1 k) := by decide +kernel
abbrev cX1_init : ByteArray := prog_3_method_1_code
def yX1_init : MethodName := ⟨RX1, "<init>", "()V"⟩
abbrev cX1_put : ByteArray := prog_3_method_2_code
def yX1_put : MethodName := ⟨RX1, "put", "(IIILPartSketch$Block;)V"⟩
abbrev cX1_measure : ByteArray := prog_3_method_3_code
def yX1_measure : MethodName := ⟨RX1, "measure", "(LPartSketch$Axis;LPartSketch$Axis;I)V"⟩
abbrev cX1_cells : ByteArray := prog_3_method_4_code
def yX1_cells : MethodName := ⟨RX1, "cells", "()I"⟩
abbrev cX1_covers : ByteArray := prog_3_method_5_code
def yX1_covers : MethodName := ⟨RX1, "covers", "(II)Z"⟩
abbrev cX1_layers : ByteArray := prog_3_method_6_code
def yX1_layers : MethodName := ⟨RX1, "layers", "()J"⟩
abbrev cX1_liesIn : ByteArray := prog_3_method_7_code
def yX1_liesIn : MethodName := ⟨RX1, "liesIn", "(LPartSketch$Block;)Z"⟩
def RX2 : String := "PartSketch$Body"
def TX2 : u_T := fun k => match k with
  | 0 => ("PartSketch$Body", "hasBase", "Z", false)
  | 1 => ("PartSketch$Body", "pockets", "I", false)
  | 2 => ("PartSketch$Body", "blocks", "[LPartSketch$Block;", true)
  | 3 => ("PartSketch$Body", "xSides", "[I", true)
  | _ => ("PartSketch$Body", "ySides", "[I", true)
def tyX2 : Nat → FieldType := fun k => match k with
  | 0 => .boolean
  | 1 => .int
  | 2 => .array (.object "PartSketch$Block")
  | 3 => .array .int
  | _ => .array .int
abbrev wsX20 : List Cond := u_ws RX2 TX2 5
theorem nmX2 : ∀ a, a < 5 → ∀ b, b < 5 → a ≠ b → (TX2 a).2.1 ≠ (TX2 b).2.1 := by decide +kernel
theorem tyX2_ok : ∀ k, k < 5 → parseFieldDescriptor (TX2 k).2.2.1 = some (tyX2 k) := by decide +kernel
abbrev cX2_init : ByteArray := prog_4_method_1_code
def yX2_init : MethodName := ⟨RX2, "<init>", "()V"⟩
abbrev cX2_base : ByteArray := prog_4_method_2_code
def yX2_base : MethodName := ⟨RX2, "base", "()LPartSketch$Block;"⟩
abbrev cX2_pocketAt : ByteArray := prog_4_method_3_code
def yX2_pocketAt : MethodName := ⟨RX2, "pocketAt", "(I)LPartSketch$Block;"⟩
abbrev cX2_layBase : ByteArray := prog_4_method_4_code
def yX2_layBase : MethodName := ⟨RX2, "layBase", "(III)V"⟩
abbrev cX2_addPocket : ByteArray := prog_4_method_5_code
def yX2_addPocket : MethodName := ⟨RX2, "addPocket", "(IIII)I"⟩
abbrev cX2_measure : ByteArray := prog_4_method_6_code
def yX2_measure : MethodName := ⟨RX2, "measure", "(LPartSketch$Axis;LPartSketch$Axis;)V"⟩
abbrev cX2_wholeCells : ByteArray := prog_4_method_7_code
def yX2_wholeCells : MethodName := ⟨RX2, "wholeCells", "()I"⟩
abbrev cX2_takenCells : ByteArray := prog_4_method_8_code
def yX2_takenCells : MethodName := ⟨RX2, "takenCells", "()I"⟩
abbrev cX2_differentDepths : ByteArray := prog_4_method_9_code
def yX2_differentDepths : MethodName := ⟨RX2, "differentDepths", "()I"⟩
abbrev cX2_gatherSides : ByteArray := prog_4_method_10_code
def yX2_gatherSides : MethodName := ⟨RX2, "gatherSides", "()I"⟩
abbrev cX2_layersTaken : ByteArray := prog_4_method_11_code
def yX2_layersTaken : MethodName := ⟨RX2, "layersTaken", "(II)I"⟩
abbrev cX2_insertSorted : ByteArray := prog_4_method_12_code
def yX2_insertSorted : MethodName := ⟨RX2, "insertSorted", "([III)V"⟩
def RX3 : String := "PartSketch$WishRows"
def TX3 : u_T := fun k => match k with
  | 0 => ("PartSketch$WishRows", "count", "I", false)
  | 1 => ("PartSketch$WishRows", "kind", "[I", true)
  | 2 => ("PartSketch$WishRows", "one", "[I", true)
  | 3 => ("PartSketch$WishRows", "other", "[I", true)
  | 4 => ("PartSketch$WishRows", "size", "[I", true)
  | 5 => ("PartSketch$WishRows", "state", "[I", true)
  | _ => ("PartSketch$WishRows", "told", "[[I", true)
def tyX3 : Nat → FieldType := fun k => match k with
  | 0 => .int
  | 1 => .array .int
  | 2 => .array .int
  | 3 => .array .int
  | 4 => .array .int
  | 5 => .array .int
  | _ => .array (.array .int)
abbrev wsX30 : List Cond := u_ws RX3 TX3 7
theorem nmX3 : ∀ a, a < 7 → ∀ b, b < 7 → a ≠ b → (TX3 a).2.1 ≠ (TX3 b).2.1 := by decide +kernel
theorem tyX3_ok : ∀ k, k < 7 → parseFieldDescriptor (TX3 k).2.2.1 = some (tyX3 k) := by decide +kernel
abbrev cX3_init : ByteArray := prog_5_method_1_code
def yX3_init : MethodName := ⟨RX3, "<init>", "()V"⟩
abbrev cX3_append : ByteArray := prog_5_method_2_code
def yX3_append : MethodName := ⟨RX3, "append", "(IIII)I"⟩
abbrev cX3_drop : ByteArray := prog_5_method_3_code
def yX3_drop : MethodName := ⟨RX3, "drop", "(I)V"⟩
abbrev cX3_countTold : ByteArray := prog_5_method_4_code
def yX3_countTold : MethodName := ⟨RX3, "countTold", "(I)I"⟩
abbrev cX3_takeOver : ByteArray := prog_5_method_5_code
def yX3_takeOver : MethodName := ⟨RX3, "takeOver", "(I)I"⟩
abbrev cX3_closeGap : ByteArray := prog_5_method_6_code
def yX3_closeGap : MethodName := ⟨RX3, "closeGap", "([II)V"⟩
def RX4 : String := "PartSketch"
def TX4 : u_T := fun k => match k with
  | 0 => ("PartSketch", "xAxis", "LPartSketch$Axis;", true)
  | 1 => ("PartSketch", "yAxis", "LPartSketch$Axis;", true)
  | 2 => ("PartSketch", "rows", "LPartSketch$WishRows;", true)
  | 3 => ("PartSketch", "body", "LPartSketch$Body;", true)
  | 4 => ("PartSketch", "points", "I", false)
  | _ => ("PartSketch", "settled", "Z", false)
def tyX4 : Nat → FieldType := fun k => match k with
  | 0 => .object "PartSketch$Axis"
  | 1 => .object "PartSketch$Axis"
  | 2 => .object "PartSketch$WishRows"
  | 3 => .object "PartSketch$Body"
  | 4 => .int
  | _ => .boolean
abbrev wsX40 : List Cond := u_ws RX4 TX4 6
theorem nmX4 : ∀ a, a < 6 → ∀ b, b < 6 → a ≠ b → (TX4 a).2.1 ≠ (TX4 b).2.1 := by decide +kernel
theorem tyX4_ok : ∀ k, k < 6 → parseFieldDescriptor (TX4 k).2.2.1 = some (tyX4 k) := by decide +kernel
abbrev cX4_init : ByteArray := prog_1_method_1_code
def yX4_init : MethodName := ⟨RX4, "<init>", "()V"⟩
abbrev cX4_point : ByteArray := prog_1_method_2_code
def yX4_point : MethodName := ⟨RX4, "point", "(II)I"⟩
abbrev cX4_hint : ByteArray := prog_1_method_3_code
def yX4_hint : MethodName := ⟨RX4, "hint", "(III)V"⟩
abbrev cX4_wish : ByteArray := prog_1_method_4_code
def yX4_wish : MethodName := ⟨RX4, "wish", "(IIII)I"⟩
abbrev cX4_remove : ByteArray := prog_1_method_5_code
def yX4_remove : MethodName := ⟨RX4, "remove", "(I)I"⟩
abbrev cX4_type : ByteArray := prog_1_method_6_code
def yX4_type : MethodName := ⟨RX4, "type", "(II)I"⟩
abbrev cX4_state : ByteArray := prog_1_method_7_code
def yX4_state : MethodName := ⟨RX4, "state", "(I)I"⟩
abbrev cX4_wishes : ByteArray := prog_1_method_8_code
def yX4_wishes : MethodName := ⟨RX4, "wishes", "()I"⟩
abbrev cX4_freedom : ByteArray := prog_1_method_9_code
def yX4_freedom : MethodName := ⟨RX4, "freedom", "()I"⟩
abbrev cX4_x : ByteArray := prog_1_method_10_code
def yX4_x : MethodName := ⟨RX4, "x", "(I)I"⟩
abbrev cX4_y : ByteArray := prog_1_method_11_code
def yX4_y : MethodName := ⟨RX4, "y", "(I)I"⟩
abbrev cX4_tell : ByteArray := prog_1_method_12_code
def yX4_tell : MethodName := ⟨RX4, "tell", "(III)I"⟩
abbrev cX4_choose : ByteArray := prog_1_method_13_code
def yX4_choose : MethodName := ⟨RX4, "choose", "(I)I"⟩
abbrev cX4_setBase : ByteArray := prog_1_method_14_code
def yX4_setBase : MethodName := ⟨RX4, "setBase", "(III)Z"⟩
abbrev cX4_pocket : ByteArray := prog_1_method_15_code
def yX4_pocket : MethodName := ⟨RX4, "pocket", "(IIII)I"⟩
abbrev cX4_fails : ByteArray := prog_1_method_16_code
def yX4_fails : MethodName := ⟨RX4, "fails", "(I)Z"⟩
abbrev cX4_volume : ByteArray := prog_1_method_17_code
def yX4_volume : MethodName := ⟨RX4, "volume", "()I"⟩
abbrev cX4_price : ByteArray := prog_1_method_18_code
def yX4_price : MethodName := ⟨RX4, "price", "()I"⟩
abbrev cX4_requireReach : ByteArray := prog_1_method_19_code
def yX4_requireReach : MethodName := ⟨RX4, "requireReach", "(I)V"⟩
abbrev cX4_requireDepth : ByteArray := prog_1_method_20_code
def yX4_requireDepth : MethodName := ⟨RX4, "requireDepth", "(I)V"⟩
abbrev cX4_requireVariant : ByteArray := prog_1_method_21_code
def yX4_requireVariant : MethodName := ⟨RX4, "requireVariant", "(I)V"⟩
abbrev cX4_requirePoint : ByteArray := prog_1_method_22_code
def yX4_requirePoint : MethodName := ⟨RX4, "requirePoint", "(I)V"⟩
abbrev cX4_requireWish : ByteArray := prog_1_method_23_code
def yX4_requireWish : MethodName := ⟨RX4, "requireWish", "(I)V"⟩
abbrev cX4_requireSized : ByteArray := prog_1_method_24_code
def yX4_requireSized : MethodName := ⟨RX4, "requireSized", "(I)V"⟩
abbrev cX4_requirePocket : ByteArray := prog_1_method_25_code
def yX4_requirePocket : MethodName := ⟨RX4, "requirePocket", "(I)V"⟩
abbrev cX4_moveHint : ByteArray := prog_1_method_26_code
def yX4_moveHint : MethodName := ⟨RX4, "moveHint", "(III)V"⟩
abbrev cX4_measure : ByteArray := prog_1_method_27_code
def yX4_measure : MethodName := ⟨RX4, "measure", "()V"⟩
abbrev cX4_settle : ByteArray := prog_1_method_28_code
def yX4_settle : MethodName := ⟨RX4, "settle", "()V"⟩
abbrev cX4_admit : ByteArray := prog_1_method_29_code
def yX4_admit : MethodName := ⟨RX4, "admit", "(I)I"⟩
abbrev cX4_admitApart : ByteArray := prog_1_method_30_code
def yX4_admitApart : MethodName := ⟨RX4, "admitApart", "(LPartSketch$Axis;III)I"⟩
abbrev cX4_admitAtHint : ByteArray := prog_1_method_31_code
def yX4_admitAtHint : MethodName := ⟨RX4, "admitAtHint", "(I)I"⟩
def RX5 : String := "PartSketchModel"
def TX5 : u_T := fun k => match k with
  | 0 => ("PartSketchModel", "thrown", "I", false)
  | 1 => ("PartSketchModel", "points", "I", false)
  | 2 => ("PartSketchModel", "hintX", "[I", true)
  | 3 => ("PartSketchModel", "hintY", "[I", true)
  | 4 => ("PartSketchModel", "wishes", "I", false)
  | 5 => ("PartSketchModel", "kind", "[I", true)
  | 6 => ("PartSketchModel", "one", "[I", true)
  | 7 => ("PartSketchModel", "other", "[I", true)
  | 8 => ("PartSketchModel", "size", "[I", true)
  | 9 => ("PartSketchModel", "state", "[I", true)
  | 10 => ("PartSketchModel", "sizes", "[I", true)
  | 11 => ("PartSketchModel", "tells", "[Z", true)
  | 12 => ("PartSketchModel", "group", "[I", true)
  | 13 => ("PartSketchModel", "off", "[I", true)
  | 14 => ("PartSketchModel", "isBase", "Z", false)
  | 15 => ("PartSketchModel", "baseOne", "I", false)
  | 16 => ("PartSketchModel", "baseOther", "I", false)
  | 17 => ("PartSketchModel", "height", "I", false)
  | 18 => ("PartSketchModel", "pockets", "I", false)
  | 19 => ("PartSketchModel", "corner", "[I", true)
  | 20 => ("PartSketchModel", "against", "[I", true)
  | 21 => ("PartSketchModel", "depth", "[I", true)
  | 22 => ("PartSketchModel", "within", "[I", true)
  | 23 => ("PartSketchModel", "side", "[I", true)
  | 24 => ("PartSketchModel", "begins", "[I", true)
  | 25 => ("PartSketchModel", "failing", "[Z", true)
  | 26 => ("PartSketchModel", "cutX", "[I", true)
  | 27 => ("PartSketchModel", "cutY", "[I", true)
  | _ => ("PartSketchModel", "cutZ", "[I", true)
def tyX5 : Nat → FieldType := fun k => match k with
  | 0 => .int
  | 1 => .int
  | 2 => .array .int
  | 3 => .array .int
  | 4 => .int
  | 5 => .array .int
  | 6 => .array .int
  | 7 => .array .int
  | 8 => .array .int
  | 9 => .array .int
  | 10 => .array .int
  | 11 => .array .boolean
  | 12 => .array .int
  | 13 => .array .int
  | 14 => .boolean
  | 15 => .int
  | 16 => .int
  | 17 => .int
  | 18 => .int
  | 19 => .array .int
  | 20 => .array .int
  | 21 => .array .int
  | 22 => .array .int
  | 23 => .array .int
  | 24 => .array .int
  | 25 => .array .boolean
  | 26 => .array .int
  | 27 => .array .int
  | _ => .array .int
abbrev wsX50 : List Cond := u_ws RX5 TX5 29
theorem nmX5 : ∀ a, a < 29 → ∀ b, b < 29 → a ≠ b → (TX5 a).2.1 ≠ (TX5 b).2.1 := by decide +kernel
theorem tyX5_ok : ∀ k, k < 29 → parseFieldDescriptor (TX5 k).2.2.1 = some (tyX5 k) := by decide +kernel
abbrev cX5_init : ByteArray := prog_7_method_1_code
def yX5_init : MethodName := ⟨RX5, "<init>", "()V"⟩
abbrev cX5_thrown : ByteArray := prog_7_method_2_code
def yX5_thrown : MethodName := ⟨RX5, "thrown", "()I"⟩
abbrev cX5_refuses : ByteArray := prog_7_method_3_code
def yX5_refuses : MethodName := ⟨RX5, "refuses", "(I)I"⟩
abbrev cX5_in : ByteArray := prog_7_method_4_code
def yX5_in : MethodName := ⟨RX5, "in", "(III)Z"⟩
abbrev cX5_isNear : ByteArray := prog_7_method_5_code
def yX5_isNear : MethodName := ⟨RX5, "isNear", "(I)Z"⟩
abbrev cX5_isPoint : ByteArray := prog_7_method_6_code
def yX5_isPoint : MethodName := ⟨RX5, "isPoint", "(I)Z"⟩
abbrev cX5_isWish : ByteArray := prog_7_method_7_code
def yX5_isWish : MethodName := ⟨RX5, "isWish", "(I)Z"⟩
abbrev cX5_holds : ByteArray := prog_7_method_8_code
def yX5_holds : MethodName := ⟨RX5, "holds", "(IIII)I"⟩
abbrev cX5_ties : ByteArray := prog_7_method_9_code
def yX5_ties : MethodName := ⟨RX5, "ties", "(IIII)V"⟩
abbrev cX5_solves : ByteArray := prog_7_method_10_code
def yX5_solves : MethodName := ⟨RX5, "solves", "()V"⟩
abbrev cX5_placeOf : ByteArray := prog_7_method_11_code
def yX5_placeOf : MethodName := ⟨RX5, "placeOf", "(II)I"⟩
abbrev cX5_point : ByteArray := prog_7_method_12_code
def yX5_point : MethodName := ⟨RX5, "point", "(II)I"⟩
abbrev cX5_hint : ByteArray := prog_7_method_13_code
def yX5_hint : MethodName := ⟨RX5, "hint", "(III)V"⟩
abbrev cX5_wish : ByteArray := prog_7_method_14_code
def yX5_wish : MethodName := ⟨RX5, "wish", "(IIII)I"⟩
abbrev cX5_remove : ByteArray := prog_7_method_15_code
def yX5_remove : MethodName := ⟨RX5, "remove", "(I)I"⟩
abbrev cX5_type : ByteArray := prog_7_method_16_code
def yX5_type : MethodName := ⟨RX5, "type", "(II)I"⟩
abbrev cX5_state : ByteArray := prog_7_method_17_code
def yX5_state : MethodName := ⟨RX5, "state", "(I)I"⟩
abbrev cX5_wishes : ByteArray := prog_7_method_18_code
def yX5_wishes : MethodName := ⟨RX5, "wishes", "()I"⟩
abbrev cX5_freedom : ByteArray := prog_7_method_19_code
def yX5_freedom : MethodName := ⟨RX5, "freedom", "()I"⟩
abbrev cX5_x : ByteArray := prog_7_method_20_code
def yX5_x : MethodName := ⟨RX5, "x", "(I)I"⟩
abbrev cX5_y : ByteArray := prog_7_method_21_code
def yX5_y : MethodName := ⟨RX5, "y", "(I)I"⟩
abbrev cX5_tell : ByteArray := prog_7_method_22_code
def yX5_tell : MethodName := ⟨RX5, "tell", "(III)I"⟩
abbrev cX5_choose : ByteArray := prog_7_method_23_code
def yX5_choose : MethodName := ⟨RX5, "choose", "(I)I"⟩
abbrev cX5_sides : ByteArray := prog_7_method_24_code
def yX5_sides : MethodName := ⟨RX5, "sides", "(III)V"⟩
abbrev cX5_isFlat : ByteArray := prog_7_method_25_code
def yX5_isFlat : MethodName := ⟨RX5, "isFlat", "(I)Z"⟩
abbrev cX5_lies : ByteArray := prog_7_method_26_code
def yX5_lies : MethodName := ⟨RX5, "lies", "(II)Z"⟩
abbrev cX5_builds : ByteArray := prog_7_method_27_code
def yX5_builds : MethodName := ⟨RX5, "builds", "()V"⟩
abbrev cX5_setBase : ByteArray := prog_7_method_28_code
def yX5_setBase : MethodName := ⟨RX5, "setBase", "(III)Z"⟩
abbrev cX5_pocket : ByteArray := prog_7_method_29_code
def yX5_pocket : MethodName := ⟨RX5, "pocket", "(IIII)I"⟩
abbrev cX5_fails : ByteArray := prog_7_method_30_code
def yX5_fails : MethodName := ⟨RX5, "fails", "(I)Z"⟩
abbrev cX5_sorts : ByteArray := prog_7_method_31_code
def yX5_sorts : MethodName := ⟨RX5, "sorts", "([II)V"⟩
abbrev cX5_isOut : ByteArray := prog_7_method_32_code
def yX5_isOut : MethodName := ⟨RX5, "isOut", "(III)Z"⟩
abbrev cX5_out : ByteArray := prog_7_method_33_code
def yX5_out : MethodName := ⟨RX5, "out", "()I"⟩
abbrev cX5_whole : ByteArray := prog_7_method_34_code
def yX5_whole : MethodName := ⟨RX5, "whole", "()I"⟩
abbrev cX5_volume : ByteArray := prog_7_method_35_code
def yX5_volume : MethodName := ⟨RX5, "volume", "()I"⟩
abbrev cX5_price : ByteArray := prog_7_method_36_code
def yX5_price : MethodName := ⟨RX5, "price", "()I"⟩
def RJ13 : String := "java/lang/Long"
def TJ13 : u_T := fun k => match k with
  | _ => ("", "", "", false)
def tyJ13 : Nat → FieldType := fun k => match k with
  | _ => .int
abbrev wsJ130 : List Cond := u_ws RJ13 TJ13 0
theorem nmJ13 : ∀ a, a < 0 → ∀ b, b < 0 → a ≠ b → (TJ13 a).2.1 ≠ (TJ13 b).2.1 := by decide +kernel
theorem tyJ13_ok : ∀ k, k < 0 → parseFieldDescriptor (TJ13 k).2.2.1 = some (tyJ13 k) := by decide +kernel
abbrev cJ13_bitCount_95d88 : ByteArray := prog_12_method_50_code
def yJ13_bitCount_95d88 : MethodName := ⟨RJ13, "bitCount", "(J)I"⟩
def RJ9 : String := "java/lang/Math"
def TJ9 : u_T := fun k => match k with
  | _ => ("", "", "", false)
def tyJ9 : Nat → FieldType := fun k => match k with
  | _ => .int
abbrev wsJ90 : List Cond := u_ws RJ9 TJ9 0
theorem nmJ9 : ∀ a, a < 0 → ∀ b, b < 0 → a ≠ b → (TJ9 a).2.1 ≠ (TJ9 b).2.1 := by decide +kernel
theorem tyJ9_ok : ∀ k, k < 0 → parseFieldDescriptor (TJ9 k).2.2.1 = some (tyJ9 k) := by decide +kernel
abbrev cJ9_max_7cf53 : ByteArray := prog_13_method_65_code
def yJ9_max_7cf53 : MethodName := ⟨RJ9, "max", "(II)I"⟩
abbrev cJ9_min_7cf53 : ByteArray := prog_13_method_69_code
def yJ9_min_7cf53 : MethodName := ⟨RJ9, "min", "(II)I"⟩
def RJ0 : String := "java/lang/String"
def TJ0 : u_T := fun k => match k with
  | _ => ("", "", "", false)
def tyJ0 : Nat → FieldType := fun k => match k with
  | _ => .int
abbrev wsJ00 : List Cond := u_ws RJ0 TJ0 0
theorem nmJ0 : ∀ a, a < 0 → ∀ b, b < 0 → a ≠ b → (TJ0 a).2.1 ≠ (TJ0 b).2.1 := by decide +kernel
theorem tyJ0_ok : ∀ k, k < 0 → parseFieldDescriptor (TJ0 k).2.2.1 = some (tyJ0 k) := by decide +kernel
def RJ10 : String := "java/lang/System"
def TJ10 : u_T := fun k => match k with
  | _ => ("", "", "", false)
def tyJ10 : Nat → FieldType := fun k => match k with
  | _ => .int
abbrev wsJ100 : List Cond := u_ws RJ10 TJ10 0
theorem nmJ10 : ∀ a, a < 0 → ∀ b, b < 0 → a ≠ b → (TJ10 a).2.1 ≠ (TJ10 b).2.1 := by decide +kernel
theorem tyJ10_ok : ∀ k, k < 0 → parseFieldDescriptor (TJ10 k).2.2.1 = some (tyJ10 k) := by decide +kernel
def RL : String := "PartSketchLaw"
abbrev cL_point : ByteArray := method_3_code
def yL_point : MethodName := ⟨RL, "point", "(LPartSketch;II[J)I"⟩
abbrev cL_hint : ByteArray := method_4_code
def yL_hint : MethodName := ⟨RL, "hint", "(LPartSketch;III)I"⟩
abbrev cL_wish : ByteArray := method_5_code
def yL_wish : MethodName := ⟨RL, "wish", "(LPartSketch;IIII[J)I"⟩
abbrev cL_remove : ByteArray := method_6_code
def yL_remove : MethodName := ⟨RL, "remove", "(LPartSketch;I[J)I"⟩
abbrev cL_type : ByteArray := method_7_code
def yL_type : MethodName := ⟨RL, "type", "(LPartSketch;II[J)I"⟩
abbrev cL_state : ByteArray := method_8_code
def yL_state : MethodName := ⟨RL, "state", "(LPartSketch;I[J)I"⟩
abbrev cL_x : ByteArray := method_9_code
def yL_x : MethodName := ⟨RL, "x", "(LPartSketch;I[J)I"⟩
abbrev cL_y : ByteArray := method_10_code
def yL_y : MethodName := ⟨RL, "y", "(LPartSketch;I[J)I"⟩
abbrev cL_tell : ByteArray := method_11_code
def yL_tell : MethodName := ⟨RL, "tell", "(LPartSketch;III[J)I"⟩
abbrev cL_choose : ByteArray := method_12_code
def yL_choose : MethodName := ⟨RL, "choose", "(LPartSketch;I[J)I"⟩
abbrev cL_setBase : ByteArray := method_13_code
def yL_setBase : MethodName := ⟨RL, "setBase", "(LPartSketch;III[J)I"⟩
abbrev cL_pocket : ByteArray := method_14_code
def yL_pocket : MethodName := ⟨RL, "pocket", "(LPartSketch;IIII[J)I"⟩
abbrev cL_fails : ByteArray := method_15_code
def yL_fails : MethodName := ⟨RL, "fails", "(LPartSketch;I[J)I"⟩
abbrev cL_law : ByteArray := code
def yL_law : MethodName := ⟨RL, "law", "([I)Z"⟩
def wsX0_init : List Cond := .code yX0_init cX0_init 1 none :: ([.methodLink RX0 3 objectInit, .instanceMethod objectInit, .code objectInit ⟨#[0xb1]⟩ 1 none, .arrayClass .int, .fieldLink RX0 9 "PartSketch$Axis" "hint" "[I", .fieldLink RX0 15 "PartSketch$Axis" "group" "[I", .fieldLink RX0 18 "PartSketch$Axis" "place" "[I"] ++ wsX00)
def wsX0_loosen : List Cond := .code yX0_loosen cX0_loosen 2 none :: ([.fieldLink RX0 15 "PartSketch$Axis" "group" "[I", .fieldLink RX0 18 "PartSketch$Axis" "place" "[I"] ++ wsX00)
def wsX0_judge : List Cond := .code yX0_judge cX0_judge 4 (some .int) :: ([.fieldLink RX0 15 "PartSketch$Axis" "group" "[I", .fieldLink RX0 18 "PartSketch$Axis" "place" "[I"] ++ wsX00)
def wsX0_join : List Cond := .code yX0_join cX0_join 8 none :: ([.fieldLink RX0 15 "PartSketch$Axis" "group" "[I", .fieldLink RX0 18 "PartSketch$Axis" "place" "[I"] ++ wsX00)
def wsX0_pinFreeGroups : List Cond := .code yX0_pinFreeGroups cX0_pinFreeGroups 3 none :: ([.fieldLink RX0 21 "PartSketch$Axis" "freeGroups" "I", .fieldLink RX0 15 "PartSketch$Axis" "group" "[I", .fieldLink RX0 9 "PartSketch$Axis" "hint" "[I", .methodLink RX0 25 yX0_join, .instanceMethod yX0_join, .selects RX0 yX0_join yX0_join, .initialized RX0, .code yX0_join cX0_join 8 none, .fieldLink RX0 18 "PartSketch$Axis" "place" "[I"] ++ wsX00)
def wsX0_placeOf : List Cond := .code yX0_placeOf cX0_placeOf 2 (some .int) :: ([.fieldLink RX0 18 "PartSketch$Axis" "place" "[I"] ++ wsX00)
def wsX1_init : List Cond := .code yX1_init cX1_init 1 none :: ([.methodLink RX1 1 objectInit, .instanceMethod objectInit, .code objectInit ⟨#[0xb1]⟩ 1 none])
def wsX1_put : List Cond := .code yX1_put cX1_put 5 none :: ([.fieldLink RX1 7 "PartSketch$Block" "one" "I", .fieldLink RX1 13 "PartSketch$Block" "other" "I", .fieldLink RX1 16 "PartSketch$Block" "depth" "I", .fieldLink RX1 19 "PartSketch$Block" "outer" "LPartSketch$Block;"] ++ wsX10)
def wsX1_liesIn : List Cond := .code yX1_liesIn cX1_liesIn 2 (some .boolean) :: ([.fieldLink RX1 35 "PartSketch$Block" "left" "I", .fieldLink RX1 41 "PartSketch$Block" "right" "I", .fieldLink RX1 44 "PartSketch$Block" "low" "I", .fieldLink RX1 47 "PartSketch$Block" "high" "I"] ++ wsX10)
def wsX1_measure_r1 : List Cond := [Cond.fieldLink RX1 7 "PartSketch$Block" "one" "I", Cond.fieldLink RX1 13 "PartSketch$Block" "other" "I", Cond.methodLink RX1 29 Lib.Math.min.name, Cond.static Lib.Math.min.name, Cond.initialized "java/lang/Math", Cond.code Lib.Math.min.name Lib.Math.min.code 2 (some .int), Cond.fieldLink RX1 35 "PartSketch$Block" "left" "I", Cond.methodLink RX1 38 Lib.Math.max.name, Cond.static Lib.Math.max.name, Cond.code Lib.Math.max.name Lib.Math.max.code 2 (some .int), Cond.fieldLink RX1 41 "PartSketch$Block" "right" "I", Cond.fieldLink RX1 44 "PartSketch$Block" "low" "I", Cond.fieldLink RX1 47 "PartSketch$Block" "high" "I", Cond.fieldLink RX1 19 "PartSketch$Block" "outer" "LPartSketch$Block;", Cond.fieldLink RX1 50 "PartSketch$Block" "bottom" "I", Cond.fieldLink RX1 53 "PartSketch$Block" "failing" "Z", Cond.fieldLink RX1 16 "PartSketch$Block" "depth" "I", Cond.methodLink RX1 23 yX0_placeOf, Cond.instanceMethod yX0_placeOf, Cond.selects RX0 yX0_placeOf yX0_placeOf, Cond.initialized RX0, Cond.code yX0_placeOf cX0_placeOf 2 (some .int), Cond.fieldLink RX0 18 "PartSketch$Axis" "place" "[I", Cond.methodLink RX1 57 yX1_liesIn]
def wsX1_measure_r2 : List Cond := [Cond.instanceMethod yX1_liesIn, Cond.selects RX1 yX1_liesIn yX1_liesIn, Cond.initialized RX1, Cond.code yX1_liesIn cX1_liesIn 2 (some .boolean)]
def wsX1_measure : List Cond := .code yX1_measure cX1_measure 5 none :: ((wsX1_measure_r1 ++ wsX1_measure_r2) ++ wsX10 ++ wsX00)
def wsX1_cells : List Cond := .code yX1_cells cX1_cells 1 (some .int) :: ([.fieldLink RX1 41 "PartSketch$Block" "right" "I", .fieldLink RX1 35 "PartSketch$Block" "left" "I", .fieldLink RX1 47 "PartSketch$Block" "high" "I", .fieldLink RX1 44 "PartSketch$Block" "low" "I", .fieldLink RX1 16 "PartSketch$Block" "depth" "I"] ++ wsX10)
def wsX1_covers : List Cond := .code yX1_covers cX1_covers 3 (some .boolean) :: ([.fieldLink RX1 35 "PartSketch$Block" "left" "I", .fieldLink RX1 41 "PartSketch$Block" "right" "I", .fieldLink RX1 44 "PartSketch$Block" "low" "I", .fieldLink RX1 47 "PartSketch$Block" "high" "I"] ++ wsX10)
def wsX1_layers : List Cond := .code yX1_layers cX1_layers 1 (some .long) :: ([.fieldLink RX1 16 "PartSketch$Block" "depth" "I", .fieldLink RX1 50 "PartSketch$Block" "bottom" "I"] ++ wsX10)
def wsX2_init : List Cond := .code yX2_init cX2_init 2 none :: ([.methodLink RX2 3 objectInit, .instanceMethod objectInit, .code objectInit ⟨#[0xb1]⟩ 1 none, .classLink RX2 9 RX1, .fieldLink RX2 11 "PartSketch$Body" "blocks" "[LPartSketch$Block;", .arrayClass .int, .fieldLink RX2 17 "PartSketch$Body" "xSides" "[I", .fieldLink RX2 21 "PartSketch$Body" "ySides" "[I", .instantiable RX1 10, .initialized RX1, .instanceMethod yX1_init, .code yX1_init cX1_init 1 none, .methodLink RX1 1 objectInit] ++ wsX20 ++ wsX10)
def wsX2_base : List Cond := .code yX2_base cX2_base 1 (some (.object "PartSketch$Block")) :: ([.fieldLink RX2 11 "PartSketch$Body" "blocks" "[LPartSketch$Block;"] ++ wsX20)
def wsX2_pocketAt : List Cond := .code yX2_pocketAt cX2_pocketAt 2 (some (.object "PartSketch$Block")) :: ([.fieldLink RX2 11 "PartSketch$Body" "blocks" "[LPartSketch$Block;"] ++ wsX20)
def wsX2_layBase : List Cond := .code yX2_layBase cX2_layBase 4 none :: ([.fieldLink RX2 33 "PartSketch$Body" "hasBase" "Z", .methodLink RX2 25 yX2_base, .instanceMethod yX2_base, .selects RX2 yX2_base yX2_base, .initialized RX2, .code yX2_base cX2_base 1 (some (.object "PartSketch$Block")), .fieldLink RX2 11 "PartSketch$Body" "blocks" "[LPartSketch$Block;", .methodLink RX2 29 yX1_put, .instanceMethod yX1_put, .selects RX1 yX1_put yX1_put, .initialized RX1, .code yX1_put cX1_put 5 none, .fieldLink RX1 7 "PartSketch$Block" "one" "I", .fieldLink RX1 13 "PartSketch$Block" "other" "I", .fieldLink RX1 16 "PartSketch$Block" "depth" "I", .fieldLink RX1 19 "PartSketch$Block" "outer" "LPartSketch$Block;"] ++ wsX20 ++ wsX10)
def wsX2_addPocket : List Cond := .code yX2_addPocket cX2_addPocket 6 (some .int) :: ([.fieldLink RX2 37 "PartSketch$Body" "pockets" "I", .methodLink RX2 41 yX2_pocketAt, .instanceMethod yX2_pocketAt, .selects RX2 yX2_pocketAt yX2_pocketAt, .initialized RX2, .code yX2_pocketAt cX2_pocketAt 2 (some (.object "PartSketch$Block")), .fieldLink RX2 11 "PartSketch$Body" "blocks" "[LPartSketch$Block;", .methodLink RX2 29 yX1_put, .instanceMethod yX1_put, .selects RX1 yX1_put yX1_put, .initialized RX1, .code yX1_put cX1_put 5 none, .fieldLink RX1 7 "PartSketch$Block" "one" "I", .fieldLink RX1 13 "PartSketch$Block" "other" "I", .fieldLink RX1 16 "PartSketch$Block" "depth" "I", .fieldLink RX1 19 "PartSketch$Block" "outer" "LPartSketch$Block;"] ++ wsX20 ++ wsX10)
def wsX2_measure_r1 : List Cond := [Cond.fieldLink RX2 33 "PartSketch$Body" "hasBase" "Z", Cond.fieldLink RX2 37 "PartSketch$Body" "pockets" "I", Cond.fieldLink RX2 45 "PartSketch$Block" "depth" "I", Cond.methodLink RX2 41 yX2_pocketAt, Cond.instanceMethod yX2_pocketAt, Cond.selects RX2 yX2_pocketAt yX2_pocketAt, Cond.initialized RX2, Cond.code yX2_pocketAt cX2_pocketAt 2 (some (.object "PartSketch$Block")), Cond.fieldLink RX2 11 "PartSketch$Body" "blocks" "[LPartSketch$Block;", Cond.methodLink RX2 25 yX2_base, Cond.instanceMethod yX2_base, Cond.selects RX2 yX2_base yX2_base, Cond.code yX2_base cX2_base 1 (some (.object "PartSketch$Block")), Cond.methodLink RX2 48 yX1_measure, Cond.instanceMethod yX1_measure, Cond.selects RX1 yX1_measure yX1_measure, Cond.initialized RX1, Cond.code yX1_measure cX1_measure 5 none, Cond.fieldLink RX1 7 "PartSketch$Block" "one" "I", Cond.fieldLink RX1 13 "PartSketch$Block" "other" "I", Cond.methodLink RX1 29 Lib.Math.min.name, Cond.static Lib.Math.min.name, Cond.initialized "java/lang/Math", Cond.code Lib.Math.min.name Lib.Math.min.code 2 (some .int)]
def wsX2_measure_r2 : List Cond := [Cond.fieldLink RX1 35 "PartSketch$Block" "left" "I", Cond.methodLink RX1 38 Lib.Math.max.name, Cond.static Lib.Math.max.name, Cond.code Lib.Math.max.name Lib.Math.max.code 2 (some .int), Cond.fieldLink RX1 41 "PartSketch$Block" "right" "I", Cond.fieldLink RX1 44 "PartSketch$Block" "low" "I", Cond.fieldLink RX1 47 "PartSketch$Block" "high" "I", Cond.fieldLink RX1 19 "PartSketch$Block" "outer" "LPartSketch$Block;", Cond.fieldLink RX1 50 "PartSketch$Block" "bottom" "I", Cond.fieldLink RX1 53 "PartSketch$Block" "failing" "Z", Cond.fieldLink RX1 16 "PartSketch$Block" "depth" "I", Cond.methodLink RX1 23 yX0_placeOf, Cond.instanceMethod yX0_placeOf, Cond.selects RX0 yX0_placeOf yX0_placeOf, Cond.initialized RX0, Cond.code yX0_placeOf cX0_placeOf 2 (some .int), Cond.fieldLink RX0 18 "PartSketch$Axis" "place" "[I", Cond.methodLink RX1 57 yX1_liesIn, Cond.instanceMethod yX1_liesIn, Cond.selects RX1 yX1_liesIn yX1_liesIn, Cond.code yX1_liesIn cX1_liesIn 2 (some .boolean)]
def wsX2_measure : List Cond := .code yX2_measure cX2_measure 4 none :: ((wsX2_measure_r1 ++ wsX2_measure_r2) ++ wsX20 ++ wsX10 ++ wsX00)
def wsX2_wholeCells : List Cond := .code yX2_wholeCells cX2_wholeCells 1 (some .int) :: ([.fieldLink RX2 33 "PartSketch$Body" "hasBase" "Z", .fieldLink RX2 52 "PartSketch$Block" "failing" "Z", .methodLink RX2 25 yX2_base, .instanceMethod yX2_base, .selects RX2 yX2_base yX2_base, .initialized RX2, .code yX2_base cX2_base 1 (some (.object "PartSketch$Block")), .fieldLink RX2 11 "PartSketch$Body" "blocks" "[LPartSketch$Block;", .methodLink RX2 55 yX1_cells, .instanceMethod yX1_cells, .selects RX1 yX1_cells yX1_cells, .initialized RX1, .code yX1_cells cX1_cells 1 (some .int), .fieldLink RX1 41 "PartSketch$Block" "right" "I", .fieldLink RX1 35 "PartSketch$Block" "left" "I", .fieldLink RX1 47 "PartSketch$Block" "high" "I", .fieldLink RX1 44 "PartSketch$Block" "low" "I", .fieldLink RX1 16 "PartSketch$Block" "depth" "I"] ++ wsX20 ++ wsX10)
def wsX2_insertSorted : List Cond := .code yX2_insertSorted cX2_insertSorted 4 none :: ([])
def wsX2_gatherSides : List Cond := .code yX2_gatherSides cX2_gatherSides 4 (some .int) :: ([.fieldLink RX2 37 "PartSketch$Body" "pockets" "I", .fieldLink RX2 52 "PartSketch$Block" "failing" "Z", .fieldLink RX2 17 "PartSketch$Body" "xSides" "[I", .fieldLink RX2 72 "PartSketch$Block" "left" "I", .fieldLink RX2 21 "PartSketch$Body" "ySides" "[I", .fieldLink RX2 79 "PartSketch$Block" "low" "I", .fieldLink RX2 82 "PartSketch$Block" "right" "I", .fieldLink RX2 85 "PartSketch$Block" "high" "I", .methodLink RX2 41 yX2_pocketAt, .instanceMethod yX2_pocketAt, .selects RX2 yX2_pocketAt yX2_pocketAt, .initialized RX2, .code yX2_pocketAt cX2_pocketAt 2 (some (.object "PartSketch$Block")), .fieldLink RX2 11 "PartSketch$Body" "blocks" "[LPartSketch$Block;", .methodLink RX2 75 yX2_insertSorted, .static yX2_insertSorted, .code yX2_insertSorted cX2_insertSorted 4 none] ++ wsX20 ++ wsX10)
def wsJ13_bitCount_95d88 : List Cond := .code yJ13_bitCount_95d88 cJ13_bitCount_95d88 2 (some .int) :: ([.constantLong RJ13 314 (6148914691236517205), .constantLong RJ13 316 (3689348814741910323), .constantLong RJ13 318 (1085102592571150095)])
def wsX2_layersTaken_r1 : List Cond := [Cond.fieldLink RX2 37 "PartSketch$Body" "pockets" "I", Cond.fieldLink RX2 52 "PartSketch$Block" "failing" "Z", Cond.methodLink RX2 41 yX2_pocketAt, Cond.instanceMethod yX2_pocketAt, Cond.selects RX2 yX2_pocketAt yX2_pocketAt, Cond.initialized RX2, Cond.code yX2_pocketAt cX2_pocketAt 2 (some (.object "PartSketch$Block")), Cond.fieldLink RX2 11 "PartSketch$Body" "blocks" "[LPartSketch$Block;", Cond.methodLink RX2 88 yX1_covers, Cond.instanceMethod yX1_covers, Cond.selects RX1 yX1_covers yX1_covers, Cond.initialized RX1, Cond.code yX1_covers cX1_covers 3 (some .boolean), Cond.fieldLink RX1 35 "PartSketch$Block" "left" "I", Cond.fieldLink RX1 41 "PartSketch$Block" "right" "I", Cond.fieldLink RX1 44 "PartSketch$Block" "low" "I", Cond.fieldLink RX1 47 "PartSketch$Block" "high" "I", Cond.methodLink RX2 92 yX1_layers, Cond.instanceMethod yX1_layers, Cond.selects RX1 yX1_layers yX1_layers, Cond.code yX1_layers cX1_layers 1 (some .long), Cond.fieldLink RX1 16 "PartSketch$Block" "depth" "I", Cond.fieldLink RX1 50 "PartSketch$Block" "bottom" "I", Cond.methodLink RX2 66 yJ13_bitCount_95d88]
def wsX2_layersTaken_r2 : List Cond := [Cond.static yJ13_bitCount_95d88, Cond.initialized RJ13, Cond.code yJ13_bitCount_95d88 cJ13_bitCount_95d88 2 (some .int), Cond.constantLong RJ13 314 (6148914691236517205), Cond.constantLong RJ13 316 (3689348814741910323), Cond.constantLong RJ13 318 (1085102592571150095)]
def wsX2_layersTaken : List Cond := .code yX2_layersTaken cX2_layersTaken 7 (some .int) :: ((wsX2_layersTaken_r1 ++ wsX2_layersTaken_r2) ++ wsX20 ++ wsX10)
def wsX2_takenCells_r1 : List Cond := [Cond.fieldLink RX2 17 "PartSketch$Body" "xSides" "[I", Cond.fieldLink RX2 21 "PartSketch$Body" "ySides" "[I", Cond.methodLink RX2 59 yX2_gatherSides, Cond.instanceMethod yX2_gatherSides, Cond.selects RX2 yX2_gatherSides yX2_gatherSides, Cond.initialized RX2, Cond.code yX2_gatherSides cX2_gatherSides 4 (some .int), Cond.fieldLink RX2 37 "PartSketch$Body" "pockets" "I", Cond.fieldLink RX2 52 "PartSketch$Block" "failing" "Z", Cond.fieldLink RX2 72 "PartSketch$Block" "left" "I", Cond.fieldLink RX2 79 "PartSketch$Block" "low" "I", Cond.fieldLink RX2 82 "PartSketch$Block" "right" "I", Cond.fieldLink RX2 85 "PartSketch$Block" "high" "I", Cond.methodLink RX2 41 yX2_pocketAt, Cond.instanceMethod yX2_pocketAt, Cond.selects RX2 yX2_pocketAt yX2_pocketAt, Cond.code yX2_pocketAt cX2_pocketAt 2 (some (.object "PartSketch$Block")), Cond.fieldLink RX2 11 "PartSketch$Body" "blocks" "[LPartSketch$Block;", Cond.methodLink RX2 75 yX2_insertSorted, Cond.static yX2_insertSorted, Cond.code yX2_insertSorted cX2_insertSorted 4 none, Cond.methodLink RX2 62 yX2_layersTaken, Cond.instanceMethod yX2_layersTaken, Cond.selects RX2 yX2_layersTaken yX2_layersTaken]
def wsX2_takenCells_r2 : List Cond := [Cond.code yX2_layersTaken cX2_layersTaken 7 (some .int), Cond.methodLink RX2 88 yX1_covers, Cond.instanceMethod yX1_covers, Cond.selects RX1 yX1_covers yX1_covers, Cond.initialized RX1, Cond.code yX1_covers cX1_covers 3 (some .boolean), Cond.fieldLink RX1 35 "PartSketch$Block" "left" "I", Cond.fieldLink RX1 41 "PartSketch$Block" "right" "I", Cond.fieldLink RX1 44 "PartSketch$Block" "low" "I", Cond.fieldLink RX1 47 "PartSketch$Block" "high" "I", Cond.methodLink RX2 92 yX1_layers, Cond.instanceMethod yX1_layers, Cond.selects RX1 yX1_layers yX1_layers, Cond.code yX1_layers cX1_layers 1 (some .long), Cond.fieldLink RX1 16 "PartSketch$Block" "depth" "I", Cond.fieldLink RX1 50 "PartSketch$Block" "bottom" "I", Cond.methodLink RX2 66 yJ13_bitCount_95d88, Cond.static yJ13_bitCount_95d88, Cond.initialized RJ13, Cond.code yJ13_bitCount_95d88 cJ13_bitCount_95d88 2 (some .int), Cond.constantLong RJ13 314 (6148914691236517205), Cond.constantLong RJ13 316 (3689348814741910323), Cond.constantLong RJ13 318 (1085102592571150095)]
def wsX2_takenCells : List Cond := .code yX2_takenCells cX2_takenCells 6 (some .int) :: ((wsX2_takenCells_r1 ++ wsX2_takenCells_r2) ++ wsX20 ++ wsX10)
def wsX2_differentDepths : List Cond := .code yX2_differentDepths cX2_differentDepths 5 (some .int) :: ([.fieldLink RX2 37 "PartSketch$Body" "pockets" "I", .fieldLink RX2 52 "PartSketch$Block" "failing" "Z", .fieldLink RX2 45 "PartSketch$Block" "depth" "I", .methodLink RX2 41 yX2_pocketAt, .instanceMethod yX2_pocketAt, .selects RX2 yX2_pocketAt yX2_pocketAt, .initialized RX2, .code yX2_pocketAt cX2_pocketAt 2 (some (.object "PartSketch$Block")), .fieldLink RX2 11 "PartSketch$Body" "blocks" "[LPartSketch$Block;", .methodLink RX2 66 yJ13_bitCount_95d88, .static yJ13_bitCount_95d88, .initialized RJ13, .code yJ13_bitCount_95d88 cJ13_bitCount_95d88 2 (some .int), .constantLong RJ13 314 (6148914691236517205), .constantLong RJ13 316 (3689348814741910323), .constantLong RJ13 318 (1085102592571150095)] ++ wsX20 ++ wsX10)
def wsX3_init : List Cond := .code yX3_init cX3_init 1 none :: ([.methodLink RX3 3 objectInit, .instanceMethod objectInit, .code objectInit ⟨#[0xb1]⟩ 1 none, .arrayClass .int, .fieldLink RX3 9 "PartSketch$WishRows" "kind" "[I", .fieldLink RX3 15 "PartSketch$WishRows" "one" "[I", .fieldLink RX3 18 "PartSketch$WishRows" "other" "[I", .fieldLink RX3 21 "PartSketch$WishRows" "size" "[I", .fieldLink RX3 24 "PartSketch$WishRows" "state" "[I", .classLink RX3 27 "[[I", .fieldLink RX3 29 "PartSketch$WishRows" "told" "[[I"] ++ wsX30)
def wsX3_append : List Cond := .code yX3_append cX3_append 7 (some .int) :: ([.fieldLink RX3 32 "PartSketch$WishRows" "count" "I", .fieldLink RX3 9 "PartSketch$WishRows" "kind" "[I", .fieldLink RX3 15 "PartSketch$WishRows" "one" "[I", .fieldLink RX3 18 "PartSketch$WishRows" "other" "[I", .fieldLink RX3 21 "PartSketch$WishRows" "size" "[I", .fieldLink RX3 29 "PartSketch$WishRows" "told" "[[I"] ++ wsX30)
def wsX3_closeGap : List Cond := .code yX3_closeGap cX3_closeGap 3 none :: ([.fieldLink RX3 32 "PartSketch$WishRows" "count" "I", .methodLink RX3 40 arraycopyName, .native arraycopyName, .static arraycopyName, .initialized "java/lang/System"] ++ wsX30)
def wsX3_drop : List Cond := .code yX3_drop cX3_drop 3 none :: ([.fieldLink RX3 9 "PartSketch$WishRows" "kind" "[I", .fieldLink RX3 15 "PartSketch$WishRows" "one" "[I", .fieldLink RX3 18 "PartSketch$WishRows" "other" "[I", .fieldLink RX3 21 "PartSketch$WishRows" "size" "[I", .fieldLink RX3 29 "PartSketch$WishRows" "told" "[[I", .fieldLink RX3 32 "PartSketch$WishRows" "count" "I", .methodLink RX3 36 yX3_closeGap, .instanceMethod yX3_closeGap, .selects RX3 yX3_closeGap yX3_closeGap, .initialized RX3, .code yX3_closeGap cX3_closeGap 3 none, .methodLink RX3 40 arraycopyName, .native arraycopyName, .static arraycopyName, .initialized "java/lang/System"] ++ wsX30)
def wsX3_countTold : List Cond := .code yX3_countTold cX3_countTold 4 (some .int) :: ([.fieldLink RX3 32 "PartSketch$WishRows" "count" "I", .fieldLink RX3 29 "PartSketch$WishRows" "told" "[[I"] ++ wsX30)
def wsX3_takeOver : List Cond := .code yX3_takeOver cX3_takeOver 5 (some .int) :: ([.fieldLink RX3 32 "PartSketch$WishRows" "count" "I", .fieldLink RX3 29 "PartSketch$WishRows" "told" "[[I", .fieldLink RX3 21 "PartSketch$WishRows" "size" "[I"] ++ wsX30)
def wsX4_init_r1 : List Cond := [Cond.methodLink RX4 3 objectInit, Cond.instanceMethod objectInit, Cond.code objectInit ⟨#[0xb1]⟩ 1 none, Cond.classLink RX4 9 RX0, Cond.instantiable RX0 4, Cond.initialized RX0, Cond.fieldLink RX4 12 "PartSketch" "xAxis" "LPartSketch$Axis;", Cond.fieldLink RX4 16 "PartSketch" "yAxis" "LPartSketch$Axis;", Cond.classLink RX4 19 RX3, Cond.instantiable RX3 7, Cond.initialized RX3, Cond.fieldLink RX4 22 "PartSketch" "rows" "LPartSketch$WishRows;", Cond.classLink RX4 26 RX2, Cond.instantiable RX2 5, Cond.initialized RX2, Cond.fieldLink RX4 29 "PartSketch" "body" "LPartSketch$Body;", Cond.instanceMethod yX0_init, Cond.code yX0_init cX0_init 1 none, Cond.methodLink RX0 3 objectInit, Cond.arrayClass .int, Cond.fieldLink RX0 9 "PartSketch$Axis" "hint" "[I", Cond.fieldLink RX0 15 "PartSketch$Axis" "group" "[I", Cond.fieldLink RX0 18 "PartSketch$Axis" "place" "[I", Cond.instanceMethod yX3_init]
def wsX4_init_r2 : List Cond := [Cond.code yX3_init cX3_init 1 none, Cond.methodLink RX3 3 objectInit, Cond.fieldLink RX3 9 "PartSketch$WishRows" "kind" "[I", Cond.fieldLink RX3 15 "PartSketch$WishRows" "one" "[I", Cond.fieldLink RX3 18 "PartSketch$WishRows" "other" "[I", Cond.fieldLink RX3 21 "PartSketch$WishRows" "size" "[I", Cond.fieldLink RX3 24 "PartSketch$WishRows" "state" "[I", Cond.classLink RX3 27 "[[I", Cond.fieldLink RX3 29 "PartSketch$WishRows" "told" "[[I", Cond.methodLink RX4 28 yX2_init, Cond.instanceMethod yX2_init, Cond.code yX2_init cX2_init 2 none, Cond.methodLink RX2 3 objectInit, Cond.classLink RX2 9 RX1, Cond.fieldLink RX2 11 "PartSketch$Body" "blocks" "[LPartSketch$Block;", Cond.fieldLink RX2 17 "PartSketch$Body" "xSides" "[I", Cond.fieldLink RX2 21 "PartSketch$Body" "ySides" "[I", Cond.instantiable RX1 10, Cond.initialized RX1, Cond.instanceMethod yX1_init, Cond.code yX1_init cX1_init 1 none, Cond.methodLink RX1 1 objectInit]
def wsX4_init : List Cond := .code yX4_init cX4_init 1 none :: ((wsX4_init_r1 ++ wsX4_init_r2) ++ wsX00 ++ wsX40 ++ wsX30 ++ wsX20 ++ wsX10)
def wsX4_requireReach : List Cond := .code yX4_requireReach cX4_requireReach 1 none :: ([.classLink RX4 55 "java/lang/IllegalArgumentException", .initialized "java/lang/IllegalArgumentException"] ++ (vx_atS RX4 59 "java/lang/IllegalArgumentException" ["java/lang/RuntimeException", "java/lang/Exception"]).filter goodWord)
def wsX4_moveHint : List Cond := .code yX4_moveHint cX4_moveHint 4 none :: ([.fieldLink RX4 12 "PartSketch" "xAxis" "LPartSketch$Axis;", .fieldLink RX4 182 "PartSketch$Axis" "hint" "[I", .fieldLink RX4 16 "PartSketch" "yAxis" "LPartSketch$Axis;", .fieldLink RX4 67 "PartSketch" "settled" "Z"] ++ wsX40 ++ wsX00)
def wsX4_point : List Cond := .code yX4_point cX4_point 4 (some .int) :: ([.classLink RX4 41 "java/lang/IllegalStateException", .initialized "java/lang/IllegalStateException", .fieldLink RX4 37 "PartSketch" "points" "I", .methodLink RX4 33 yX4_requireReach, .static yX4_requireReach, .initialized RX4, .code yX4_requireReach cX4_requireReach 1 none, .classLink RX4 55 "java/lang/IllegalArgumentException", .initialized "java/lang/IllegalArgumentException", .methodLink RX4 48 yX4_moveHint, .instanceMethod yX4_moveHint, .selects RX4 yX4_moveHint yX4_moveHint, .code yX4_moveHint cX4_moveHint 4 none, .fieldLink RX4 12 "PartSketch" "xAxis" "LPartSketch$Axis;", .fieldLink RX4 182 "PartSketch$Axis" "hint" "[I", .fieldLink RX4 16 "PartSketch" "yAxis" "LPartSketch$Axis;", .fieldLink RX4 67 "PartSketch" "settled" "Z"] ++ wsX40 ++ wsX00 ++ (vx_atS RX4 45 "java/lang/IllegalStateException" ["java/lang/RuntimeException", "java/lang/Exception"]).filter goodWord ++ (vx_atS RX4 59 "java/lang/IllegalArgumentException" ["java/lang/RuntimeException", "java/lang/Exception"]).filter goodWord)
def wsX4_requirePoint : List Cond := .code yX4_requirePoint cX4_requirePoint 2 none :: ([.classLink RX4 168 "java/lang/IndexOutOfBoundsException", .initialized "java/lang/IndexOutOfBoundsException", .fieldLink RX4 37 "PartSketch" "points" "I"] ++ wsX40 ++ (vx_atS RX4 172 "java/lang/IndexOutOfBoundsException" ["java/lang/RuntimeException", "java/lang/Exception"]).filter goodWord)
def wsX4_hint : List Cond := .code yX4_hint cX4_hint 4 none :: ([.methodLink RX4 52 yX4_requirePoint, .instanceMethod yX4_requirePoint, .selects RX4 yX4_requirePoint yX4_requirePoint, .initialized RX4, .code yX4_requirePoint cX4_requirePoint 2 none, .classLink RX4 168 "java/lang/IndexOutOfBoundsException", .initialized "java/lang/IndexOutOfBoundsException", .fieldLink RX4 37 "PartSketch" "points" "I", .methodLink RX4 33 yX4_requireReach, .static yX4_requireReach, .code yX4_requireReach cX4_requireReach 1 none, .classLink RX4 55 "java/lang/IllegalArgumentException", .initialized "java/lang/IllegalArgumentException", .methodLink RX4 48 yX4_moveHint, .instanceMethod yX4_moveHint, .selects RX4 yX4_moveHint yX4_moveHint, .code yX4_moveHint cX4_moveHint 4 none, .fieldLink RX4 12 "PartSketch" "xAxis" "LPartSketch$Axis;", .fieldLink RX4 182 "PartSketch$Axis" "hint" "[I", .fieldLink RX4 16 "PartSketch" "yAxis" "LPartSketch$Axis;", .fieldLink RX4 67 "PartSketch" "settled" "Z"] ++ wsX40 ++ wsX00 ++ (vx_atS RX4 172 "java/lang/IndexOutOfBoundsException" ["java/lang/RuntimeException", "java/lang/Exception"]).filter goodWord ++ (vx_atS RX4 59 "java/lang/IllegalArgumentException" ["java/lang/RuntimeException", "java/lang/Exception"]).filter goodWord)
def wsX4_wish_r1 : List Cond := [Cond.classLink RX4 55 "java/lang/IllegalArgumentException", Cond.initialized "java/lang/IllegalArgumentException", Cond.classLink RX4 41 "java/lang/IllegalStateException", Cond.initialized "java/lang/IllegalStateException", Cond.fieldLink RX4 22 "PartSketch" "rows" "LPartSketch$WishRows;", Cond.fieldLink RX4 62 "PartSketch$WishRows" "count" "I", Cond.fieldLink RX4 67 "PartSketch" "settled" "Z", Cond.methodLink RX4 33 yX4_requireReach, Cond.static yX4_requireReach, Cond.initialized RX4, Cond.code yX4_requireReach cX4_requireReach 1 none, Cond.methodLink RX4 52 yX4_requirePoint, Cond.instanceMethod yX4_requirePoint, Cond.selects RX4 yX4_requirePoint yX4_requirePoint, Cond.code yX4_requirePoint cX4_requirePoint 2 none, Cond.classLink RX4 168 "java/lang/IndexOutOfBoundsException", Cond.initialized "java/lang/IndexOutOfBoundsException", Cond.fieldLink RX4 37 "PartSketch" "points" "I", Cond.methodLink RX4 71 yX3_append, Cond.instanceMethod yX3_append, Cond.selects RX3 yX3_append yX3_append, Cond.initialized RX3, Cond.code yX3_append cX3_append 7 (some .int), Cond.fieldLink RX3 32 "PartSketch$WishRows" "count" "I"]
def wsX4_wish_r2 : List Cond := [Cond.fieldLink RX3 9 "PartSketch$WishRows" "kind" "[I", Cond.fieldLink RX3 15 "PartSketch$WishRows" "one" "[I", Cond.fieldLink RX3 18 "PartSketch$WishRows" "other" "[I", Cond.fieldLink RX3 21 "PartSketch$WishRows" "size" "[I", Cond.fieldLink RX3 29 "PartSketch$WishRows" "told" "[[I"]
def wsX4_wish : List Cond := .code yX4_wish cX4_wish 5 (some .int) :: ((wsX4_wish_r1 ++ wsX4_wish_r2) ++ wsX40 ++ wsX30 ++ (vx_atS RX4 59 "java/lang/IllegalArgumentException" ["java/lang/RuntimeException", "java/lang/Exception"]).filter goodWord ++ (vx_atS RX4 45 "java/lang/IllegalStateException" ["java/lang/RuntimeException", "java/lang/Exception"]).filter goodWord ++ (vx_atS RX4 172 "java/lang/IndexOutOfBoundsException" ["java/lang/RuntimeException", "java/lang/Exception"]).filter goodWord)
def wsX4_requireWish : List Cond := .code yX4_requireWish cX4_requireWish 2 none :: ([.classLink RX4 168 "java/lang/IndexOutOfBoundsException", .initialized "java/lang/IndexOutOfBoundsException", .fieldLink RX4 22 "PartSketch" "rows" "LPartSketch$WishRows;", .fieldLink RX4 62 "PartSketch$WishRows" "count" "I"] ++ wsX40 ++ wsX30 ++ (vx_atS RX4 172 "java/lang/IndexOutOfBoundsException" ["java/lang/RuntimeException", "java/lang/Exception"]).filter goodWord)
def wsX4_admitApart : List Cond := .code yX4_admitApart cX4_admitApart 5 (some .int) :: ([.methodLink RX4 210 yX0_judge, .instanceMethod yX0_judge, .selects RX0 yX0_judge yX0_judge, .initialized RX0, .code yX0_judge cX0_judge 4 (some .int), .fieldLink RX0 15 "PartSketch$Axis" "group" "[I", .fieldLink RX0 18 "PartSketch$Axis" "place" "[I", .methodLink RX4 214 yX0_join, .instanceMethod yX0_join, .selects RX0 yX0_join yX0_join, .code yX0_join cX0_join 8 none] ++ wsX00)
def wsX4_admitAtHint : List Cond := .code yX4_admitAtHint cX4_admitAtHint 4 (some .int) :: ([.fieldLink RX4 12 "PartSketch" "xAxis" "LPartSketch$Axis;", .fieldLink RX4 182 "PartSketch$Axis" "hint" "[I", .fieldLink RX4 16 "PartSketch" "yAxis" "LPartSketch$Axis;", .methodLink RX4 210 yX0_judge, .instanceMethod yX0_judge, .selects RX0 yX0_judge yX0_judge, .initialized RX0, .code yX0_judge cX0_judge 4 (some .int), .fieldLink RX0 15 "PartSketch$Axis" "group" "[I", .fieldLink RX0 18 "PartSketch$Axis" "place" "[I", .methodLink RX4 214 yX0_join, .instanceMethod yX0_join, .selects RX0 yX0_join yX0_join, .code yX0_join cX0_join 8 none] ++ wsX40 ++ wsX00)
def wsX4_admit_r1 : List Cond := [Cond.fieldLink RX4 22 "PartSketch" "rows" "LPartSketch$WishRows;", Cond.fieldLink RX4 197 "PartSketch$WishRows" "one" "[I", Cond.fieldLink RX4 200 "PartSketch$WishRows" "other" "[I", Cond.fieldLink RX4 91 "PartSketch$WishRows" "size" "[I", Cond.fieldLink RX4 175 "PartSketch$WishRows" "kind" "[I", Cond.fieldLink RX4 12 "PartSketch" "xAxis" "LPartSketch$Axis;", Cond.fieldLink RX4 16 "PartSketch" "yAxis" "LPartSketch$Axis;", Cond.methodLink RX4 203 yX4_admitApart, Cond.static yX4_admitApart, Cond.initialized RX4, Cond.code yX4_admitApart cX4_admitApart 5 (some .int), Cond.methodLink RX4 210 yX0_judge, Cond.instanceMethod yX0_judge, Cond.selects RX0 yX0_judge yX0_judge, Cond.initialized RX0, Cond.code yX0_judge cX0_judge 4 (some .int), Cond.fieldLink RX0 15 "PartSketch$Axis" "group" "[I", Cond.fieldLink RX0 18 "PartSketch$Axis" "place" "[I", Cond.methodLink RX4 214 yX0_join, Cond.instanceMethod yX0_join, Cond.selects RX0 yX0_join yX0_join, Cond.code yX0_join cX0_join 8 none, Cond.methodLink RX4 207 yX4_admitAtHint, Cond.instanceMethod yX4_admitAtHint]
def wsX4_admit_r2 : List Cond := [Cond.selects RX4 yX4_admitAtHint yX4_admitAtHint, Cond.code yX4_admitAtHint cX4_admitAtHint 4 (some .int), Cond.fieldLink RX4 182 "PartSketch$Axis" "hint" "[I"]
def wsX4_admit : List Cond := .code yX4_admit cX4_admit 5 (some .int) :: ((wsX4_admit_r1 ++ wsX4_admit_r2) ++ wsX40 ++ wsX30 ++ wsX00)
def wsX4_settle_r1 : List Cond := [Cond.fieldLink RX4 67 "PartSketch" "settled" "Z", Cond.fieldLink RX4 12 "PartSketch" "xAxis" "LPartSketch$Axis;", Cond.fieldLink RX4 16 "PartSketch" "yAxis" "LPartSketch$Axis;", Cond.fieldLink RX4 22 "PartSketch" "rows" "LPartSketch$WishRows;", Cond.fieldLink RX4 62 "PartSketch$WishRows" "count" "I", Cond.fieldLink RX4 81 "PartSketch$WishRows" "state" "[I", Cond.fieldLink RX4 37 "PartSketch" "points" "I", Cond.methodLink RX4 188 yX0_loosen, Cond.instanceMethod yX0_loosen, Cond.selects RX0 yX0_loosen yX0_loosen, Cond.initialized RX0, Cond.code yX0_loosen cX0_loosen 2 none, Cond.fieldLink RX0 15 "PartSketch$Axis" "group" "[I", Cond.fieldLink RX0 18 "PartSketch$Axis" "place" "[I", Cond.methodLink RX4 191 yX4_admit, Cond.instanceMethod yX4_admit, Cond.selects RX4 yX4_admit yX4_admit, Cond.initialized RX4, Cond.code yX4_admit cX4_admit 5 (some .int), Cond.fieldLink RX4 197 "PartSketch$WishRows" "one" "[I", Cond.fieldLink RX4 200 "PartSketch$WishRows" "other" "[I", Cond.fieldLink RX4 91 "PartSketch$WishRows" "size" "[I", Cond.fieldLink RX4 175 "PartSketch$WishRows" "kind" "[I", Cond.methodLink RX4 203 yX4_admitApart]
def wsX4_settle_r2 : List Cond := [Cond.static yX4_admitApart, Cond.code yX4_admitApart cX4_admitApart 5 (some .int), Cond.methodLink RX4 210 yX0_judge, Cond.instanceMethod yX0_judge, Cond.selects RX0 yX0_judge yX0_judge, Cond.code yX0_judge cX0_judge 4 (some .int), Cond.methodLink RX4 214 yX0_join, Cond.instanceMethod yX0_join, Cond.selects RX0 yX0_join yX0_join, Cond.code yX0_join cX0_join 8 none, Cond.methodLink RX4 207 yX4_admitAtHint, Cond.instanceMethod yX4_admitAtHint, Cond.selects RX4 yX4_admitAtHint yX4_admitAtHint, Cond.code yX4_admitAtHint cX4_admitAtHint 4 (some .int), Cond.fieldLink RX4 182 "PartSketch$Axis" "hint" "[I", Cond.methodLink RX4 194 yX0_pinFreeGroups, Cond.instanceMethod yX0_pinFreeGroups, Cond.selects RX0 yX0_pinFreeGroups yX0_pinFreeGroups, Cond.code yX0_pinFreeGroups cX0_pinFreeGroups 3 none, Cond.fieldLink RX0 21 "PartSketch$Axis" "freeGroups" "I", Cond.fieldLink RX0 9 "PartSketch$Axis" "hint" "[I", Cond.methodLink RX0 25 yX0_join]
def wsX4_settle : List Cond := .code yX4_settle cX4_settle 2 none :: ((wsX4_settle_r1 ++ wsX4_settle_r2) ++ wsX40 ++ wsX30 ++ wsX00)
def wsX4_remove_r1 : List Cond := [Cond.fieldLink RX4 22 "PartSketch" "rows" "LPartSketch$WishRows;", Cond.fieldLink RX4 81 "PartSketch$WishRows" "state" "[I", Cond.fieldLink RX4 67 "PartSketch" "settled" "Z", Cond.methodLink RX4 75 yX4_requireWish, Cond.instanceMethod yX4_requireWish, Cond.selects RX4 yX4_requireWish yX4_requireWish, Cond.initialized RX4, Cond.code yX4_requireWish cX4_requireWish 2 none, Cond.classLink RX4 168 "java/lang/IndexOutOfBoundsException", Cond.initialized "java/lang/IndexOutOfBoundsException", Cond.fieldLink RX4 62 "PartSketch$WishRows" "count" "I", Cond.methodLink RX4 78 yX4_settle, Cond.instanceMethod yX4_settle, Cond.selects RX4 yX4_settle yX4_settle, Cond.code yX4_settle cX4_settle 2 none, Cond.fieldLink RX4 12 "PartSketch" "xAxis" "LPartSketch$Axis;", Cond.fieldLink RX4 16 "PartSketch" "yAxis" "LPartSketch$Axis;", Cond.fieldLink RX4 37 "PartSketch" "points" "I", Cond.methodLink RX4 188 yX0_loosen, Cond.instanceMethod yX0_loosen, Cond.selects RX0 yX0_loosen yX0_loosen, Cond.initialized RX0, Cond.code yX0_loosen cX0_loosen 2 none, Cond.fieldLink RX0 15 "PartSketch$Axis" "group" "[I"]
def wsX4_remove_r2 : List Cond := [Cond.fieldLink RX0 18 "PartSketch$Axis" "place" "[I", Cond.methodLink RX4 191 yX4_admit, Cond.instanceMethod yX4_admit, Cond.selects RX4 yX4_admit yX4_admit, Cond.code yX4_admit cX4_admit 5 (some .int), Cond.fieldLink RX4 197 "PartSketch$WishRows" "one" "[I", Cond.fieldLink RX4 200 "PartSketch$WishRows" "other" "[I", Cond.fieldLink RX4 91 "PartSketch$WishRows" "size" "[I", Cond.fieldLink RX4 175 "PartSketch$WishRows" "kind" "[I", Cond.methodLink RX4 203 yX4_admitApart, Cond.static yX4_admitApart, Cond.code yX4_admitApart cX4_admitApart 5 (some .int), Cond.methodLink RX4 210 yX0_judge, Cond.instanceMethod yX0_judge, Cond.selects RX0 yX0_judge yX0_judge, Cond.code yX0_judge cX0_judge 4 (some .int), Cond.methodLink RX4 214 yX0_join, Cond.instanceMethod yX0_join, Cond.selects RX0 yX0_join yX0_join, Cond.code yX0_join cX0_join 8 none, Cond.methodLink RX4 207 yX4_admitAtHint, Cond.instanceMethod yX4_admitAtHint, Cond.selects RX4 yX4_admitAtHint yX4_admitAtHint, Cond.code yX4_admitAtHint cX4_admitAtHint 4 (some .int)]
def wsX4_remove_r3 : List Cond := [Cond.fieldLink RX4 182 "PartSketch$Axis" "hint" "[I", Cond.methodLink RX4 194 yX0_pinFreeGroups, Cond.instanceMethod yX0_pinFreeGroups, Cond.selects RX0 yX0_pinFreeGroups yX0_pinFreeGroups, Cond.code yX0_pinFreeGroups cX0_pinFreeGroups 3 none, Cond.fieldLink RX0 21 "PartSketch$Axis" "freeGroups" "I", Cond.fieldLink RX0 9 "PartSketch$Axis" "hint" "[I", Cond.methodLink RX0 25 yX0_join, Cond.methodLink RX4 85 yX3_drop, Cond.instanceMethod yX3_drop, Cond.selects RX3 yX3_drop yX3_drop, Cond.initialized RX3, Cond.code yX3_drop cX3_drop 3 none, Cond.fieldLink RX3 9 "PartSketch$WishRows" "kind" "[I", Cond.fieldLink RX3 15 "PartSketch$WishRows" "one" "[I", Cond.fieldLink RX3 18 "PartSketch$WishRows" "other" "[I", Cond.fieldLink RX3 21 "PartSketch$WishRows" "size" "[I", Cond.fieldLink RX3 29 "PartSketch$WishRows" "told" "[[I", Cond.fieldLink RX3 32 "PartSketch$WishRows" "count" "I", Cond.methodLink RX3 36 yX3_closeGap, Cond.instanceMethod yX3_closeGap, Cond.selects RX3 yX3_closeGap yX3_closeGap, Cond.code yX3_closeGap cX3_closeGap 3 none, Cond.methodLink RX3 40 arraycopyName]
def wsX4_remove_r4 : List Cond := [Cond.native arraycopyName, Cond.static arraycopyName, Cond.initialized "java/lang/System"]
def wsX4_remove : List Cond := .code yX4_remove cX4_remove 3 (some .int) :: ((wsX4_remove_r1 ++ (wsX4_remove_r2 ++ (wsX4_remove_r3 ++ wsX4_remove_r4))) ++ wsX40 ++ wsX30 ++ wsX00 ++ (vx_atS RX4 172 "java/lang/IndexOutOfBoundsException" ["java/lang/RuntimeException", "java/lang/Exception"]).filter goodWord)
def wsX4_requireSized : List Cond := .code yX4_requireSized cX4_requireSized 2 none :: ([.classLink RX4 41 "java/lang/IllegalStateException", .initialized "java/lang/IllegalStateException", .fieldLink RX4 22 "PartSketch" "rows" "LPartSketch$WishRows;", .fieldLink RX4 175 "PartSketch$WishRows" "kind" "[I"] ++ wsX40 ++ wsX30 ++ (vx_atS RX4 45 "java/lang/IllegalStateException" ["java/lang/RuntimeException", "java/lang/Exception"]).filter goodWord)
def wsX4_type : List Cond := .code yX4_type cX4_type 4 (some .int) :: ([.fieldLink RX4 22 "PartSketch" "rows" "LPartSketch$WishRows;", .fieldLink RX4 91 "PartSketch$WishRows" "size" "[I", .fieldLink RX4 67 "PartSketch" "settled" "Z", .methodLink RX4 75 yX4_requireWish, .instanceMethod yX4_requireWish, .selects RX4 yX4_requireWish yX4_requireWish, .initialized RX4, .code yX4_requireWish cX4_requireWish 2 none, .classLink RX4 168 "java/lang/IndexOutOfBoundsException", .initialized "java/lang/IndexOutOfBoundsException", .fieldLink RX4 62 "PartSketch$WishRows" "count" "I", .methodLink RX4 88 yX4_requireSized, .instanceMethod yX4_requireSized, .selects RX4 yX4_requireSized yX4_requireSized, .code yX4_requireSized cX4_requireSized 2 none, .classLink RX4 41 "java/lang/IllegalStateException", .initialized "java/lang/IllegalStateException", .fieldLink RX4 175 "PartSketch$WishRows" "kind" "[I", .methodLink RX4 33 yX4_requireReach, .static yX4_requireReach, .code yX4_requireReach cX4_requireReach 1 none, .classLink RX4 55 "java/lang/IllegalArgumentException", .initialized "java/lang/IllegalArgumentException"] ++ wsX40 ++ wsX30 ++ (vx_atS RX4 172 "java/lang/IndexOutOfBoundsException" ["java/lang/RuntimeException", "java/lang/Exception"]).filter goodWord ++ (vx_atS RX4 45 "java/lang/IllegalStateException" ["java/lang/RuntimeException", "java/lang/Exception"]).filter goodWord ++ (vx_atS RX4 59 "java/lang/IllegalArgumentException" ["java/lang/RuntimeException", "java/lang/Exception"]).filter goodWord)
def wsX4_state_r1 : List Cond := [Cond.fieldLink RX4 22 "PartSketch" "rows" "LPartSketch$WishRows;", Cond.fieldLink RX4 81 "PartSketch$WishRows" "state" "[I", Cond.methodLink RX4 75 yX4_requireWish, Cond.instanceMethod yX4_requireWish, Cond.selects RX4 yX4_requireWish yX4_requireWish, Cond.initialized RX4, Cond.code yX4_requireWish cX4_requireWish 2 none, Cond.classLink RX4 168 "java/lang/IndexOutOfBoundsException", Cond.initialized "java/lang/IndexOutOfBoundsException", Cond.fieldLink RX4 62 "PartSketch$WishRows" "count" "I", Cond.methodLink RX4 78 yX4_settle, Cond.instanceMethod yX4_settle, Cond.selects RX4 yX4_settle yX4_settle, Cond.code yX4_settle cX4_settle 2 none, Cond.fieldLink RX4 67 "PartSketch" "settled" "Z", Cond.fieldLink RX4 12 "PartSketch" "xAxis" "LPartSketch$Axis;", Cond.fieldLink RX4 16 "PartSketch" "yAxis" "LPartSketch$Axis;", Cond.fieldLink RX4 37 "PartSketch" "points" "I", Cond.methodLink RX4 188 yX0_loosen, Cond.instanceMethod yX0_loosen, Cond.selects RX0 yX0_loosen yX0_loosen, Cond.initialized RX0, Cond.code yX0_loosen cX0_loosen 2 none, Cond.fieldLink RX0 15 "PartSketch$Axis" "group" "[I"]
def wsX4_state_r2 : List Cond := [Cond.fieldLink RX0 18 "PartSketch$Axis" "place" "[I", Cond.methodLink RX4 191 yX4_admit, Cond.instanceMethod yX4_admit, Cond.selects RX4 yX4_admit yX4_admit, Cond.code yX4_admit cX4_admit 5 (some .int), Cond.fieldLink RX4 197 "PartSketch$WishRows" "one" "[I", Cond.fieldLink RX4 200 "PartSketch$WishRows" "other" "[I", Cond.fieldLink RX4 91 "PartSketch$WishRows" "size" "[I", Cond.fieldLink RX4 175 "PartSketch$WishRows" "kind" "[I", Cond.methodLink RX4 203 yX4_admitApart, Cond.static yX4_admitApart, Cond.code yX4_admitApart cX4_admitApart 5 (some .int), Cond.methodLink RX4 210 yX0_judge, Cond.instanceMethod yX0_judge, Cond.selects RX0 yX0_judge yX0_judge, Cond.code yX0_judge cX0_judge 4 (some .int), Cond.methodLink RX4 214 yX0_join, Cond.instanceMethod yX0_join, Cond.selects RX0 yX0_join yX0_join, Cond.code yX0_join cX0_join 8 none, Cond.methodLink RX4 207 yX4_admitAtHint, Cond.instanceMethod yX4_admitAtHint, Cond.selects RX4 yX4_admitAtHint yX4_admitAtHint, Cond.code yX4_admitAtHint cX4_admitAtHint 4 (some .int)]
def wsX4_state_r3 : List Cond := [Cond.fieldLink RX4 182 "PartSketch$Axis" "hint" "[I", Cond.methodLink RX4 194 yX0_pinFreeGroups, Cond.instanceMethod yX0_pinFreeGroups, Cond.selects RX0 yX0_pinFreeGroups yX0_pinFreeGroups, Cond.code yX0_pinFreeGroups cX0_pinFreeGroups 3 none, Cond.fieldLink RX0 21 "PartSketch$Axis" "freeGroups" "I", Cond.fieldLink RX0 9 "PartSketch$Axis" "hint" "[I", Cond.methodLink RX0 25 yX0_join]
def wsX4_state : List Cond := .code yX4_state cX4_state 2 (some .int) :: ((wsX4_state_r1 ++ (wsX4_state_r2 ++ wsX4_state_r3)) ++ wsX40 ++ wsX30 ++ wsX00 ++ (vx_atS RX4 172 "java/lang/IndexOutOfBoundsException" ["java/lang/RuntimeException", "java/lang/Exception"]).filter goodWord)
def wsX4_wishes : List Cond := .code yX4_wishes cX4_wishes 1 (some .int) :: ([.fieldLink RX4 22 "PartSketch" "rows" "LPartSketch$WishRows;", .fieldLink RX4 62 "PartSketch$WishRows" "count" "I"] ++ wsX40 ++ wsX30)
def wsX4_freedom_r1 : List Cond := [Cond.fieldLink RX4 12 "PartSketch" "xAxis" "LPartSketch$Axis;", Cond.fieldLink RX4 94 "PartSketch$Axis" "freeGroups" "I", Cond.fieldLink RX4 16 "PartSketch" "yAxis" "LPartSketch$Axis;", Cond.methodLink RX4 78 yX4_settle, Cond.instanceMethod yX4_settle, Cond.selects RX4 yX4_settle yX4_settle, Cond.initialized RX4, Cond.code yX4_settle cX4_settle 2 none, Cond.fieldLink RX4 67 "PartSketch" "settled" "Z", Cond.fieldLink RX4 22 "PartSketch" "rows" "LPartSketch$WishRows;", Cond.fieldLink RX4 62 "PartSketch$WishRows" "count" "I", Cond.fieldLink RX4 81 "PartSketch$WishRows" "state" "[I", Cond.fieldLink RX4 37 "PartSketch" "points" "I", Cond.methodLink RX4 188 yX0_loosen, Cond.instanceMethod yX0_loosen, Cond.selects RX0 yX0_loosen yX0_loosen, Cond.initialized RX0, Cond.code yX0_loosen cX0_loosen 2 none, Cond.fieldLink RX0 15 "PartSketch$Axis" "group" "[I", Cond.fieldLink RX0 18 "PartSketch$Axis" "place" "[I", Cond.methodLink RX4 191 yX4_admit, Cond.instanceMethod yX4_admit, Cond.selects RX4 yX4_admit yX4_admit, Cond.code yX4_admit cX4_admit 5 (some .int)]
def wsX4_freedom_r2 : List Cond := [Cond.fieldLink RX4 197 "PartSketch$WishRows" "one" "[I", Cond.fieldLink RX4 200 "PartSketch$WishRows" "other" "[I", Cond.fieldLink RX4 91 "PartSketch$WishRows" "size" "[I", Cond.fieldLink RX4 175 "PartSketch$WishRows" "kind" "[I", Cond.methodLink RX4 203 yX4_admitApart, Cond.static yX4_admitApart, Cond.code yX4_admitApart cX4_admitApart 5 (some .int), Cond.methodLink RX4 210 yX0_judge, Cond.instanceMethod yX0_judge, Cond.selects RX0 yX0_judge yX0_judge, Cond.code yX0_judge cX0_judge 4 (some .int), Cond.methodLink RX4 214 yX0_join, Cond.instanceMethod yX0_join, Cond.selects RX0 yX0_join yX0_join, Cond.code yX0_join cX0_join 8 none, Cond.methodLink RX4 207 yX4_admitAtHint, Cond.instanceMethod yX4_admitAtHint, Cond.selects RX4 yX4_admitAtHint yX4_admitAtHint, Cond.code yX4_admitAtHint cX4_admitAtHint 4 (some .int), Cond.fieldLink RX4 182 "PartSketch$Axis" "hint" "[I", Cond.methodLink RX4 194 yX0_pinFreeGroups, Cond.instanceMethod yX0_pinFreeGroups, Cond.selects RX0 yX0_pinFreeGroups yX0_pinFreeGroups, Cond.code yX0_pinFreeGroups cX0_pinFreeGroups 3 none]
def wsX4_freedom_r3 : List Cond := [Cond.fieldLink RX0 21 "PartSketch$Axis" "freeGroups" "I", Cond.fieldLink RX0 9 "PartSketch$Axis" "hint" "[I", Cond.methodLink RX0 25 yX0_join]
def wsX4_freedom : List Cond := .code yX4_freedom cX4_freedom 1 (some .int) :: ((wsX4_freedom_r1 ++ (wsX4_freedom_r2 ++ wsX4_freedom_r3)) ++ wsX40 ++ wsX00 ++ wsX30)
def wsX4_x_r1 : List Cond := [Cond.fieldLink RX4 12 "PartSketch" "xAxis" "LPartSketch$Axis;", Cond.methodLink RX4 52 yX4_requirePoint, Cond.instanceMethod yX4_requirePoint, Cond.selects RX4 yX4_requirePoint yX4_requirePoint, Cond.initialized RX4, Cond.code yX4_requirePoint cX4_requirePoint 2 none, Cond.classLink RX4 168 "java/lang/IndexOutOfBoundsException", Cond.initialized "java/lang/IndexOutOfBoundsException", Cond.fieldLink RX4 37 "PartSketch" "points" "I", Cond.methodLink RX4 78 yX4_settle, Cond.instanceMethod yX4_settle, Cond.selects RX4 yX4_settle yX4_settle, Cond.code yX4_settle cX4_settle 2 none, Cond.fieldLink RX4 67 "PartSketch" "settled" "Z", Cond.fieldLink RX4 16 "PartSketch" "yAxis" "LPartSketch$Axis;", Cond.fieldLink RX4 22 "PartSketch" "rows" "LPartSketch$WishRows;", Cond.fieldLink RX4 62 "PartSketch$WishRows" "count" "I", Cond.fieldLink RX4 81 "PartSketch$WishRows" "state" "[I", Cond.methodLink RX4 188 yX0_loosen, Cond.instanceMethod yX0_loosen, Cond.selects RX0 yX0_loosen yX0_loosen, Cond.initialized RX0, Cond.code yX0_loosen cX0_loosen 2 none, Cond.fieldLink RX0 15 "PartSketch$Axis" "group" "[I"]
def wsX4_x_r2 : List Cond := [Cond.fieldLink RX0 18 "PartSketch$Axis" "place" "[I", Cond.methodLink RX4 191 yX4_admit, Cond.instanceMethod yX4_admit, Cond.selects RX4 yX4_admit yX4_admit, Cond.code yX4_admit cX4_admit 5 (some .int), Cond.fieldLink RX4 197 "PartSketch$WishRows" "one" "[I", Cond.fieldLink RX4 200 "PartSketch$WishRows" "other" "[I", Cond.fieldLink RX4 91 "PartSketch$WishRows" "size" "[I", Cond.fieldLink RX4 175 "PartSketch$WishRows" "kind" "[I", Cond.methodLink RX4 203 yX4_admitApart, Cond.static yX4_admitApart, Cond.code yX4_admitApart cX4_admitApart 5 (some .int), Cond.methodLink RX4 210 yX0_judge, Cond.instanceMethod yX0_judge, Cond.selects RX0 yX0_judge yX0_judge, Cond.code yX0_judge cX0_judge 4 (some .int), Cond.methodLink RX4 214 yX0_join, Cond.instanceMethod yX0_join, Cond.selects RX0 yX0_join yX0_join, Cond.code yX0_join cX0_join 8 none, Cond.methodLink RX4 207 yX4_admitAtHint, Cond.instanceMethod yX4_admitAtHint, Cond.selects RX4 yX4_admitAtHint yX4_admitAtHint, Cond.code yX4_admitAtHint cX4_admitAtHint 4 (some .int)]
def wsX4_x_r3 : List Cond := [Cond.fieldLink RX4 182 "PartSketch$Axis" "hint" "[I", Cond.methodLink RX4 194 yX0_pinFreeGroups, Cond.instanceMethod yX0_pinFreeGroups, Cond.selects RX0 yX0_pinFreeGroups yX0_pinFreeGroups, Cond.code yX0_pinFreeGroups cX0_pinFreeGroups 3 none, Cond.fieldLink RX0 21 "PartSketch$Axis" "freeGroups" "I", Cond.fieldLink RX0 9 "PartSketch$Axis" "hint" "[I", Cond.methodLink RX0 25 yX0_join, Cond.methodLink RX4 97 yX0_placeOf, Cond.instanceMethod yX0_placeOf, Cond.selects RX0 yX0_placeOf yX0_placeOf, Cond.code yX0_placeOf cX0_placeOf 2 (some .int)]
def wsX4_x : List Cond := .code yX4_x cX4_x 2 (some .int) :: ((wsX4_x_r1 ++ (wsX4_x_r2 ++ wsX4_x_r3)) ++ wsX40 ++ wsX30 ++ wsX00 ++ (vx_atS RX4 172 "java/lang/IndexOutOfBoundsException" ["java/lang/RuntimeException", "java/lang/Exception"]).filter goodWord)
def wsX4_y_r1 : List Cond := [Cond.fieldLink RX4 16 "PartSketch" "yAxis" "LPartSketch$Axis;", Cond.methodLink RX4 52 yX4_requirePoint, Cond.instanceMethod yX4_requirePoint, Cond.selects RX4 yX4_requirePoint yX4_requirePoint, Cond.initialized RX4, Cond.code yX4_requirePoint cX4_requirePoint 2 none, Cond.classLink RX4 168 "java/lang/IndexOutOfBoundsException", Cond.initialized "java/lang/IndexOutOfBoundsException", Cond.fieldLink RX4 37 "PartSketch" "points" "I", Cond.methodLink RX4 78 yX4_settle, Cond.instanceMethod yX4_settle, Cond.selects RX4 yX4_settle yX4_settle, Cond.code yX4_settle cX4_settle 2 none, Cond.fieldLink RX4 67 "PartSketch" "settled" "Z", Cond.fieldLink RX4 12 "PartSketch" "xAxis" "LPartSketch$Axis;", Cond.fieldLink RX4 22 "PartSketch" "rows" "LPartSketch$WishRows;", Cond.fieldLink RX4 62 "PartSketch$WishRows" "count" "I", Cond.fieldLink RX4 81 "PartSketch$WishRows" "state" "[I", Cond.methodLink RX4 188 yX0_loosen, Cond.instanceMethod yX0_loosen, Cond.selects RX0 yX0_loosen yX0_loosen, Cond.initialized RX0, Cond.code yX0_loosen cX0_loosen 2 none, Cond.fieldLink RX0 15 "PartSketch$Axis" "group" "[I"]
def wsX4_y_r2 : List Cond := [Cond.fieldLink RX0 18 "PartSketch$Axis" "place" "[I", Cond.methodLink RX4 191 yX4_admit, Cond.instanceMethod yX4_admit, Cond.selects RX4 yX4_admit yX4_admit, Cond.code yX4_admit cX4_admit 5 (some .int), Cond.fieldLink RX4 197 "PartSketch$WishRows" "one" "[I", Cond.fieldLink RX4 200 "PartSketch$WishRows" "other" "[I", Cond.fieldLink RX4 91 "PartSketch$WishRows" "size" "[I", Cond.fieldLink RX4 175 "PartSketch$WishRows" "kind" "[I", Cond.methodLink RX4 203 yX4_admitApart, Cond.static yX4_admitApart, Cond.code yX4_admitApart cX4_admitApart 5 (some .int), Cond.methodLink RX4 210 yX0_judge, Cond.instanceMethod yX0_judge, Cond.selects RX0 yX0_judge yX0_judge, Cond.code yX0_judge cX0_judge 4 (some .int), Cond.methodLink RX4 214 yX0_join, Cond.instanceMethod yX0_join, Cond.selects RX0 yX0_join yX0_join, Cond.code yX0_join cX0_join 8 none, Cond.methodLink RX4 207 yX4_admitAtHint, Cond.instanceMethod yX4_admitAtHint, Cond.selects RX4 yX4_admitAtHint yX4_admitAtHint, Cond.code yX4_admitAtHint cX4_admitAtHint 4 (some .int)]
def wsX4_y_r3 : List Cond := [Cond.fieldLink RX4 182 "PartSketch$Axis" "hint" "[I", Cond.methodLink RX4 194 yX0_pinFreeGroups, Cond.instanceMethod yX0_pinFreeGroups, Cond.selects RX0 yX0_pinFreeGroups yX0_pinFreeGroups, Cond.code yX0_pinFreeGroups cX0_pinFreeGroups 3 none, Cond.fieldLink RX0 21 "PartSketch$Axis" "freeGroups" "I", Cond.fieldLink RX0 9 "PartSketch$Axis" "hint" "[I", Cond.methodLink RX0 25 yX0_join, Cond.methodLink RX4 97 yX0_placeOf, Cond.instanceMethod yX0_placeOf, Cond.selects RX0 yX0_placeOf yX0_placeOf, Cond.code yX0_placeOf cX0_placeOf 2 (some .int)]
def wsX4_y : List Cond := .code yX4_y cX4_y 2 (some .int) :: ((wsX4_y_r1 ++ (wsX4_y_r2 ++ wsX4_y_r3)) ++ wsX40 ++ wsX30 ++ wsX00 ++ (vx_atS RX4 172 "java/lang/IndexOutOfBoundsException" ["java/lang/RuntimeException", "java/lang/Exception"]).filter goodWord)
def wsX4_requireVariant : List Cond := .code yX4_requireVariant cX4_requireVariant 1 none :: ([.classLink RX4 55 "java/lang/IllegalArgumentException", .initialized "java/lang/IllegalArgumentException"] ++ (vx_atS RX4 59 "java/lang/IllegalArgumentException" ["java/lang/RuntimeException", "java/lang/Exception"]).filter goodWord)
def wsX4_tell_r1 : List Cond := [Cond.fieldLink RX4 22 "PartSketch" "rows" "LPartSketch$WishRows;", Cond.fieldLink RX4 104 "PartSketch$WishRows" "told" "[[I", Cond.methodLink RX4 101 yX4_requireVariant, Cond.static yX4_requireVariant, Cond.initialized RX4, Cond.code yX4_requireVariant cX4_requireVariant 1 none, Cond.classLink RX4 55 "java/lang/IllegalArgumentException", Cond.initialized "java/lang/IllegalArgumentException", Cond.methodLink RX4 33 yX4_requireReach, Cond.static yX4_requireReach, Cond.code yX4_requireReach cX4_requireReach 1 none, Cond.methodLink RX4 75 yX4_requireWish, Cond.instanceMethod yX4_requireWish, Cond.selects RX4 yX4_requireWish yX4_requireWish, Cond.code yX4_requireWish cX4_requireWish 2 none, Cond.classLink RX4 168 "java/lang/IndexOutOfBoundsException", Cond.initialized "java/lang/IndexOutOfBoundsException", Cond.fieldLink RX4 62 "PartSketch$WishRows" "count" "I", Cond.methodLink RX4 88 yX4_requireSized, Cond.instanceMethod yX4_requireSized, Cond.selects RX4 yX4_requireSized yX4_requireSized, Cond.code yX4_requireSized cX4_requireSized 2 none, Cond.classLink RX4 41 "java/lang/IllegalStateException", Cond.initialized "java/lang/IllegalStateException"]
def wsX4_tell_r2 : List Cond := [Cond.fieldLink RX4 175 "PartSketch$WishRows" "kind" "[I", Cond.methodLink RX4 108 yX3_countTold, Cond.instanceMethod yX3_countTold, Cond.selects RX3 yX3_countTold yX3_countTold, Cond.initialized RX3, Cond.code yX3_countTold cX3_countTold 4 (some .int), Cond.fieldLink RX3 32 "PartSketch$WishRows" "count" "I", Cond.fieldLink RX3 29 "PartSketch$WishRows" "told" "[[I"]
def wsX4_tell : List Cond := .code yX4_tell cX4_tell 4 (some .int) :: ((wsX4_tell_r1 ++ wsX4_tell_r2) ++ wsX40 ++ wsX30 ++ (vx_atS RX4 59 "java/lang/IllegalArgumentException" ["java/lang/RuntimeException", "java/lang/Exception"]).filter goodWord ++ (vx_atS RX4 172 "java/lang/IndexOutOfBoundsException" ["java/lang/RuntimeException", "java/lang/Exception"]).filter goodWord ++ (vx_atS RX4 45 "java/lang/IllegalStateException" ["java/lang/RuntimeException", "java/lang/Exception"]).filter goodWord)
def wsX4_choose : List Cond := .code yX4_choose cX4_choose 2 (some .int) :: ([.fieldLink RX4 67 "PartSketch" "settled" "Z", .fieldLink RX4 22 "PartSketch" "rows" "LPartSketch$WishRows;", .methodLink RX4 101 yX4_requireVariant, .static yX4_requireVariant, .initialized RX4, .code yX4_requireVariant cX4_requireVariant 1 none, .classLink RX4 55 "java/lang/IllegalArgumentException", .initialized "java/lang/IllegalArgumentException", .methodLink RX4 111 yX3_takeOver, .instanceMethod yX3_takeOver, .selects RX3 yX3_takeOver yX3_takeOver, .initialized RX3, .code yX3_takeOver cX3_takeOver 5 (some .int), .fieldLink RX3 32 "PartSketch$WishRows" "count" "I", .fieldLink RX3 29 "PartSketch$WishRows" "told" "[[I", .fieldLink RX3 21 "PartSketch$WishRows" "size" "[I"] ++ wsX40 ++ wsX30 ++ (vx_atS RX4 59 "java/lang/IllegalArgumentException" ["java/lang/RuntimeException", "java/lang/Exception"]).filter goodWord)
def wsX4_requireDepth : List Cond := .code yX4_requireDepth cX4_requireDepth 1 none :: ([.classLink RX4 55 "java/lang/IllegalArgumentException", .initialized "java/lang/IllegalArgumentException"] ++ (vx_atS RX4 59 "java/lang/IllegalArgumentException" ["java/lang/RuntimeException", "java/lang/Exception"]).filter goodWord)
def wsX4_measure_r1 : List Cond := [Cond.fieldLink RX4 29 "PartSketch" "body" "LPartSketch$Body;", Cond.fieldLink RX4 12 "PartSketch" "xAxis" "LPartSketch$Axis;", Cond.fieldLink RX4 16 "PartSketch" "yAxis" "LPartSketch$Axis;", Cond.methodLink RX4 78 yX4_settle, Cond.instanceMethod yX4_settle, Cond.selects RX4 yX4_settle yX4_settle, Cond.initialized RX4, Cond.code yX4_settle cX4_settle 2 none, Cond.fieldLink RX4 67 "PartSketch" "settled" "Z", Cond.fieldLink RX4 22 "PartSketch" "rows" "LPartSketch$WishRows;", Cond.fieldLink RX4 62 "PartSketch$WishRows" "count" "I", Cond.fieldLink RX4 81 "PartSketch$WishRows" "state" "[I", Cond.fieldLink RX4 37 "PartSketch" "points" "I", Cond.methodLink RX4 188 yX0_loosen, Cond.instanceMethod yX0_loosen, Cond.selects RX0 yX0_loosen yX0_loosen, Cond.initialized RX0, Cond.code yX0_loosen cX0_loosen 2 none, Cond.fieldLink RX0 15 "PartSketch$Axis" "group" "[I", Cond.fieldLink RX0 18 "PartSketch$Axis" "place" "[I", Cond.methodLink RX4 191 yX4_admit, Cond.instanceMethod yX4_admit, Cond.selects RX4 yX4_admit yX4_admit, Cond.code yX4_admit cX4_admit 5 (some .int)]
def wsX4_measure_r2 : List Cond := [Cond.fieldLink RX4 197 "PartSketch$WishRows" "one" "[I", Cond.fieldLink RX4 200 "PartSketch$WishRows" "other" "[I", Cond.fieldLink RX4 91 "PartSketch$WishRows" "size" "[I", Cond.fieldLink RX4 175 "PartSketch$WishRows" "kind" "[I", Cond.methodLink RX4 203 yX4_admitApart, Cond.static yX4_admitApart, Cond.code yX4_admitApart cX4_admitApart 5 (some .int), Cond.methodLink RX4 210 yX0_judge, Cond.instanceMethod yX0_judge, Cond.selects RX0 yX0_judge yX0_judge, Cond.code yX0_judge cX0_judge 4 (some .int), Cond.methodLink RX4 214 yX0_join, Cond.instanceMethod yX0_join, Cond.selects RX0 yX0_join yX0_join, Cond.code yX0_join cX0_join 8 none, Cond.methodLink RX4 207 yX4_admitAtHint, Cond.instanceMethod yX4_admitAtHint, Cond.selects RX4 yX4_admitAtHint yX4_admitAtHint, Cond.code yX4_admitAtHint cX4_admitAtHint 4 (some .int), Cond.fieldLink RX4 182 "PartSketch$Axis" "hint" "[I", Cond.methodLink RX4 194 yX0_pinFreeGroups, Cond.instanceMethod yX0_pinFreeGroups, Cond.selects RX0 yX0_pinFreeGroups yX0_pinFreeGroups, Cond.code yX0_pinFreeGroups cX0_pinFreeGroups 3 none]
def wsX4_measure_r3 : List Cond := [Cond.fieldLink RX0 21 "PartSketch$Axis" "freeGroups" "I", Cond.fieldLink RX0 9 "PartSketch$Axis" "hint" "[I", Cond.methodLink RX0 25 yX0_join, Cond.methodLink RX4 185 yX2_measure, Cond.instanceMethod yX2_measure, Cond.selects RX2 yX2_measure yX2_measure, Cond.initialized RX2, Cond.code yX2_measure cX2_measure 4 none, Cond.fieldLink RX2 33 "PartSketch$Body" "hasBase" "Z", Cond.fieldLink RX2 37 "PartSketch$Body" "pockets" "I", Cond.fieldLink RX2 45 "PartSketch$Block" "depth" "I", Cond.methodLink RX2 41 yX2_pocketAt, Cond.instanceMethod yX2_pocketAt, Cond.selects RX2 yX2_pocketAt yX2_pocketAt, Cond.code yX2_pocketAt cX2_pocketAt 2 (some (.object "PartSketch$Block")), Cond.fieldLink RX2 11 "PartSketch$Body" "blocks" "[LPartSketch$Block;", Cond.methodLink RX2 25 yX2_base, Cond.instanceMethod yX2_base, Cond.selects RX2 yX2_base yX2_base, Cond.code yX2_base cX2_base 1 (some (.object "PartSketch$Block")), Cond.methodLink RX2 48 yX1_measure, Cond.instanceMethod yX1_measure, Cond.selects RX1 yX1_measure yX1_measure, Cond.initialized RX1]
def wsX4_measure_r4 : List Cond := [Cond.code yX1_measure cX1_measure 5 none, Cond.fieldLink RX1 7 "PartSketch$Block" "one" "I", Cond.fieldLink RX1 13 "PartSketch$Block" "other" "I", Cond.methodLink RX1 29 Lib.Math.min.name, Cond.static Lib.Math.min.name, Cond.initialized "java/lang/Math", Cond.code Lib.Math.min.name Lib.Math.min.code 2 (some .int), Cond.fieldLink RX1 35 "PartSketch$Block" "left" "I", Cond.methodLink RX1 38 Lib.Math.max.name, Cond.static Lib.Math.max.name, Cond.code Lib.Math.max.name Lib.Math.max.code 2 (some .int), Cond.fieldLink RX1 41 "PartSketch$Block" "right" "I", Cond.fieldLink RX1 44 "PartSketch$Block" "low" "I", Cond.fieldLink RX1 47 "PartSketch$Block" "high" "I", Cond.fieldLink RX1 19 "PartSketch$Block" "outer" "LPartSketch$Block;", Cond.fieldLink RX1 50 "PartSketch$Block" "bottom" "I", Cond.fieldLink RX1 53 "PartSketch$Block" "failing" "Z", Cond.fieldLink RX1 16 "PartSketch$Block" "depth" "I", Cond.methodLink RX1 23 yX0_placeOf, Cond.instanceMethod yX0_placeOf, Cond.selects RX0 yX0_placeOf yX0_placeOf, Cond.code yX0_placeOf cX0_placeOf 2 (some .int), Cond.methodLink RX1 57 yX1_liesIn, Cond.instanceMethod yX1_liesIn]
def wsX4_measure_r5 : List Cond := [Cond.selects RX1 yX1_liesIn yX1_liesIn, Cond.code yX1_liesIn cX1_liesIn 2 (some .boolean)]
def wsX4_measure : List Cond := .code yX4_measure cX4_measure 1 none :: ((wsX4_measure_r1 ++ (wsX4_measure_r2 ++ (wsX4_measure_r3 ++ (wsX4_measure_r4 ++ wsX4_measure_r5)))) ++ wsX40 ++ wsX30 ++ wsX00 ++ wsX20 ++ wsX10)
def wsX4_setBase_r1 : List Cond := [Cond.fieldLink RX4 29 "PartSketch" "body" "LPartSketch$Body;", Cond.fieldLink RX4 127 "PartSketch$Block" "failing" "Z", Cond.methodLink RX4 52 yX4_requirePoint, Cond.instanceMethod yX4_requirePoint, Cond.selects RX4 yX4_requirePoint yX4_requirePoint, Cond.initialized RX4, Cond.code yX4_requirePoint cX4_requirePoint 2 none, Cond.classLink RX4 168 "java/lang/IndexOutOfBoundsException", Cond.initialized "java/lang/IndexOutOfBoundsException", Cond.fieldLink RX4 37 "PartSketch" "points" "I", Cond.methodLink RX4 114 yX4_requireDepth, Cond.static yX4_requireDepth, Cond.code yX4_requireDepth cX4_requireDepth 1 none, Cond.classLink RX4 55 "java/lang/IllegalArgumentException", Cond.initialized "java/lang/IllegalArgumentException", Cond.methodLink RX4 117 yX2_layBase, Cond.instanceMethod yX2_layBase, Cond.selects RX2 yX2_layBase yX2_layBase, Cond.initialized RX2, Cond.code yX2_layBase cX2_layBase 4 none, Cond.fieldLink RX2 33 "PartSketch$Body" "hasBase" "Z", Cond.methodLink RX2 25 yX2_base, Cond.instanceMethod yX2_base, Cond.selects RX2 yX2_base yX2_base]
def wsX4_setBase_r2 : List Cond := [Cond.code yX2_base cX2_base 1 (some (.object "PartSketch$Block")), Cond.fieldLink RX2 11 "PartSketch$Body" "blocks" "[LPartSketch$Block;", Cond.methodLink RX2 29 yX1_put, Cond.instanceMethod yX1_put, Cond.selects RX1 yX1_put yX1_put, Cond.initialized RX1, Cond.code yX1_put cX1_put 5 none, Cond.fieldLink RX1 7 "PartSketch$Block" "one" "I", Cond.fieldLink RX1 13 "PartSketch$Block" "other" "I", Cond.fieldLink RX1 16 "PartSketch$Block" "depth" "I", Cond.fieldLink RX1 19 "PartSketch$Block" "outer" "LPartSketch$Block;", Cond.methodLink RX4 120 yX4_measure, Cond.instanceMethod yX4_measure, Cond.selects RX4 yX4_measure yX4_measure, Cond.code yX4_measure cX4_measure 1 none, Cond.fieldLink RX4 12 "PartSketch" "xAxis" "LPartSketch$Axis;", Cond.fieldLink RX4 16 "PartSketch" "yAxis" "LPartSketch$Axis;", Cond.methodLink RX4 78 yX4_settle, Cond.instanceMethod yX4_settle, Cond.selects RX4 yX4_settle yX4_settle, Cond.code yX4_settle cX4_settle 2 none, Cond.fieldLink RX4 67 "PartSketch" "settled" "Z", Cond.fieldLink RX4 22 "PartSketch" "rows" "LPartSketch$WishRows;", Cond.fieldLink RX4 62 "PartSketch$WishRows" "count" "I"]
def wsX4_setBase_r3 : List Cond := [Cond.fieldLink RX4 81 "PartSketch$WishRows" "state" "[I", Cond.methodLink RX4 188 yX0_loosen, Cond.instanceMethod yX0_loosen, Cond.selects RX0 yX0_loosen yX0_loosen, Cond.initialized RX0, Cond.code yX0_loosen cX0_loosen 2 none, Cond.fieldLink RX0 15 "PartSketch$Axis" "group" "[I", Cond.fieldLink RX0 18 "PartSketch$Axis" "place" "[I", Cond.methodLink RX4 191 yX4_admit, Cond.instanceMethod yX4_admit, Cond.selects RX4 yX4_admit yX4_admit, Cond.code yX4_admit cX4_admit 5 (some .int), Cond.fieldLink RX4 197 "PartSketch$WishRows" "one" "[I", Cond.fieldLink RX4 200 "PartSketch$WishRows" "other" "[I", Cond.fieldLink RX4 91 "PartSketch$WishRows" "size" "[I", Cond.fieldLink RX4 175 "PartSketch$WishRows" "kind" "[I", Cond.methodLink RX4 203 yX4_admitApart, Cond.static yX4_admitApart, Cond.code yX4_admitApart cX4_admitApart 5 (some .int), Cond.methodLink RX4 210 yX0_judge, Cond.instanceMethod yX0_judge, Cond.selects RX0 yX0_judge yX0_judge, Cond.code yX0_judge cX0_judge 4 (some .int), Cond.methodLink RX4 214 yX0_join]
def wsX4_setBase_r4 : List Cond := [Cond.instanceMethod yX0_join, Cond.selects RX0 yX0_join yX0_join, Cond.code yX0_join cX0_join 8 none, Cond.methodLink RX4 207 yX4_admitAtHint, Cond.instanceMethod yX4_admitAtHint, Cond.selects RX4 yX4_admitAtHint yX4_admitAtHint, Cond.code yX4_admitAtHint cX4_admitAtHint 4 (some .int), Cond.fieldLink RX4 182 "PartSketch$Axis" "hint" "[I", Cond.methodLink RX4 194 yX0_pinFreeGroups, Cond.instanceMethod yX0_pinFreeGroups, Cond.selects RX0 yX0_pinFreeGroups yX0_pinFreeGroups, Cond.code yX0_pinFreeGroups cX0_pinFreeGroups 3 none, Cond.fieldLink RX0 21 "PartSketch$Axis" "freeGroups" "I", Cond.fieldLink RX0 9 "PartSketch$Axis" "hint" "[I", Cond.methodLink RX0 25 yX0_join, Cond.methodLink RX4 185 yX2_measure, Cond.instanceMethod yX2_measure, Cond.selects RX2 yX2_measure yX2_measure, Cond.code yX2_measure cX2_measure 4 none, Cond.fieldLink RX2 37 "PartSketch$Body" "pockets" "I", Cond.fieldLink RX2 45 "PartSketch$Block" "depth" "I", Cond.methodLink RX2 41 yX2_pocketAt, Cond.instanceMethod yX2_pocketAt, Cond.selects RX2 yX2_pocketAt yX2_pocketAt]
def wsX4_setBase_r5 : List Cond := [Cond.code yX2_pocketAt cX2_pocketAt 2 (some (.object "PartSketch$Block")), Cond.methodLink RX2 48 yX1_measure, Cond.instanceMethod yX1_measure, Cond.selects RX1 yX1_measure yX1_measure, Cond.code yX1_measure cX1_measure 5 none, Cond.methodLink RX1 29 Lib.Math.min.name, Cond.static Lib.Math.min.name, Cond.initialized "java/lang/Math", Cond.code Lib.Math.min.name Lib.Math.min.code 2 (some .int), Cond.fieldLink RX1 35 "PartSketch$Block" "left" "I", Cond.methodLink RX1 38 Lib.Math.max.name, Cond.static Lib.Math.max.name, Cond.code Lib.Math.max.name Lib.Math.max.code 2 (some .int), Cond.fieldLink RX1 41 "PartSketch$Block" "right" "I", Cond.fieldLink RX1 44 "PartSketch$Block" "low" "I", Cond.fieldLink RX1 47 "PartSketch$Block" "high" "I", Cond.fieldLink RX1 50 "PartSketch$Block" "bottom" "I", Cond.fieldLink RX1 53 "PartSketch$Block" "failing" "Z", Cond.methodLink RX1 23 yX0_placeOf, Cond.instanceMethod yX0_placeOf, Cond.selects RX0 yX0_placeOf yX0_placeOf, Cond.code yX0_placeOf cX0_placeOf 2 (some .int), Cond.methodLink RX1 57 yX1_liesIn, Cond.instanceMethod yX1_liesIn]
def wsX4_setBase_r6 : List Cond := [Cond.selects RX1 yX1_liesIn yX1_liesIn, Cond.code yX1_liesIn cX1_liesIn 2 (some .boolean), Cond.methodLink RX4 123 yX2_base]
def wsX4_setBase : List Cond := .code yX4_setBase cX4_setBase 4 (some .boolean) :: ((wsX4_setBase_r1 ++ (wsX4_setBase_r2 ++ (wsX4_setBase_r3 ++ (wsX4_setBase_r4 ++ (wsX4_setBase_r5 ++ wsX4_setBase_r6))))) ++ wsX40 ++ wsX10 ++ wsX20 ++ wsX30 ++ wsX00 ++ (vx_atS RX4 172 "java/lang/IndexOutOfBoundsException" ["java/lang/RuntimeException", "java/lang/Exception"]).filter goodWord ++ (vx_atS RX4 59 "java/lang/IllegalArgumentException" ["java/lang/RuntimeException", "java/lang/Exception"]).filter goodWord)
def wsX4_requirePocket : List Cond := .code yX4_requirePocket cX4_requirePocket 2 none :: ([.classLink RX4 168 "java/lang/IndexOutOfBoundsException", .initialized "java/lang/IndexOutOfBoundsException", .fieldLink RX4 29 "PartSketch" "body" "LPartSketch$Body;", .fieldLink RX4 140 "PartSketch$Body" "pockets" "I"] ++ wsX40 ++ wsX20 ++ (vx_atS RX4 172 "java/lang/IndexOutOfBoundsException" ["java/lang/RuntimeException", "java/lang/Exception"]).filter goodWord)
def wsX4_pocket_r1 : List Cond := [Cond.classLink RX4 41 "java/lang/IllegalStateException", Cond.initialized "java/lang/IllegalStateException", Cond.fieldLink RX4 29 "PartSketch" "body" "LPartSketch$Body;", Cond.fieldLink RX4 135 "PartSketch$Body" "hasBase" "Z", Cond.fieldLink RX4 140 "PartSketch$Body" "pockets" "I", Cond.methodLink RX4 52 yX4_requirePoint, Cond.instanceMethod yX4_requirePoint, Cond.selects RX4 yX4_requirePoint yX4_requirePoint, Cond.initialized RX4, Cond.code yX4_requirePoint cX4_requirePoint 2 none, Cond.classLink RX4 168 "java/lang/IndexOutOfBoundsException", Cond.initialized "java/lang/IndexOutOfBoundsException", Cond.fieldLink RX4 37 "PartSketch" "points" "I", Cond.methodLink RX4 132 yX4_requirePocket, Cond.instanceMethod yX4_requirePocket, Cond.selects RX4 yX4_requirePocket yX4_requirePocket, Cond.code yX4_requirePocket cX4_requirePocket 2 none, Cond.methodLink RX4 114 yX4_requireDepth, Cond.static yX4_requireDepth, Cond.code yX4_requireDepth cX4_requireDepth 1 none, Cond.classLink RX4 55 "java/lang/IllegalArgumentException", Cond.initialized "java/lang/IllegalArgumentException", Cond.methodLink RX4 145 yX2_addPocket, Cond.instanceMethod yX2_addPocket]
def wsX4_pocket_r2 : List Cond := [Cond.selects RX2 yX2_addPocket yX2_addPocket, Cond.initialized RX2, Cond.code yX2_addPocket cX2_addPocket 6 (some .int), Cond.fieldLink RX2 37 "PartSketch$Body" "pockets" "I", Cond.methodLink RX2 41 yX2_pocketAt, Cond.instanceMethod yX2_pocketAt, Cond.selects RX2 yX2_pocketAt yX2_pocketAt, Cond.code yX2_pocketAt cX2_pocketAt 2 (some (.object "PartSketch$Block")), Cond.fieldLink RX2 11 "PartSketch$Body" "blocks" "[LPartSketch$Block;", Cond.methodLink RX2 29 yX1_put, Cond.instanceMethod yX1_put, Cond.selects RX1 yX1_put yX1_put, Cond.initialized RX1, Cond.code yX1_put cX1_put 5 none, Cond.fieldLink RX1 7 "PartSketch$Block" "one" "I", Cond.fieldLink RX1 13 "PartSketch$Block" "other" "I", Cond.fieldLink RX1 16 "PartSketch$Block" "depth" "I", Cond.fieldLink RX1 19 "PartSketch$Block" "outer" "LPartSketch$Block;"]
def wsX4_pocket : List Cond := .code yX4_pocket cX4_pocket 5 (some .int) :: ((wsX4_pocket_r1 ++ wsX4_pocket_r2) ++ wsX40 ++ wsX20 ++ wsX10 ++ (vx_atS RX4 45 "java/lang/IllegalStateException" ["java/lang/RuntimeException", "java/lang/Exception"]).filter goodWord ++ (vx_atS RX4 172 "java/lang/IndexOutOfBoundsException" ["java/lang/RuntimeException", "java/lang/Exception"]).filter goodWord ++ (vx_atS RX4 59 "java/lang/IllegalArgumentException" ["java/lang/RuntimeException", "java/lang/Exception"]).filter goodWord)
def wsX4_fails_r1 : List Cond := [Cond.fieldLink RX4 29 "PartSketch" "body" "LPartSketch$Body;", Cond.fieldLink RX4 127 "PartSketch$Block" "failing" "Z", Cond.methodLink RX4 132 yX4_requirePocket, Cond.instanceMethod yX4_requirePocket, Cond.selects RX4 yX4_requirePocket yX4_requirePocket, Cond.initialized RX4, Cond.code yX4_requirePocket cX4_requirePocket 2 none, Cond.classLink RX4 168 "java/lang/IndexOutOfBoundsException", Cond.initialized "java/lang/IndexOutOfBoundsException", Cond.fieldLink RX4 140 "PartSketch$Body" "pockets" "I", Cond.methodLink RX4 120 yX4_measure, Cond.instanceMethod yX4_measure, Cond.selects RX4 yX4_measure yX4_measure, Cond.code yX4_measure cX4_measure 1 none, Cond.fieldLink RX4 12 "PartSketch" "xAxis" "LPartSketch$Axis;", Cond.fieldLink RX4 16 "PartSketch" "yAxis" "LPartSketch$Axis;", Cond.methodLink RX4 78 yX4_settle, Cond.instanceMethod yX4_settle, Cond.selects RX4 yX4_settle yX4_settle, Cond.code yX4_settle cX4_settle 2 none, Cond.fieldLink RX4 67 "PartSketch" "settled" "Z", Cond.fieldLink RX4 22 "PartSketch" "rows" "LPartSketch$WishRows;", Cond.fieldLink RX4 62 "PartSketch$WishRows" "count" "I", Cond.fieldLink RX4 81 "PartSketch$WishRows" "state" "[I"]
def wsX4_fails_r2 : List Cond := [Cond.fieldLink RX4 37 "PartSketch" "points" "I", Cond.methodLink RX4 188 yX0_loosen, Cond.instanceMethod yX0_loosen, Cond.selects RX0 yX0_loosen yX0_loosen, Cond.initialized RX0, Cond.code yX0_loosen cX0_loosen 2 none, Cond.fieldLink RX0 15 "PartSketch$Axis" "group" "[I", Cond.fieldLink RX0 18 "PartSketch$Axis" "place" "[I", Cond.methodLink RX4 191 yX4_admit, Cond.instanceMethod yX4_admit, Cond.selects RX4 yX4_admit yX4_admit, Cond.code yX4_admit cX4_admit 5 (some .int), Cond.fieldLink RX4 197 "PartSketch$WishRows" "one" "[I", Cond.fieldLink RX4 200 "PartSketch$WishRows" "other" "[I", Cond.fieldLink RX4 91 "PartSketch$WishRows" "size" "[I", Cond.fieldLink RX4 175 "PartSketch$WishRows" "kind" "[I", Cond.methodLink RX4 203 yX4_admitApart, Cond.static yX4_admitApart, Cond.code yX4_admitApart cX4_admitApart 5 (some .int), Cond.methodLink RX4 210 yX0_judge, Cond.instanceMethod yX0_judge, Cond.selects RX0 yX0_judge yX0_judge, Cond.code yX0_judge cX0_judge 4 (some .int), Cond.methodLink RX4 214 yX0_join]
def wsX4_fails_r3 : List Cond := [Cond.instanceMethod yX0_join, Cond.selects RX0 yX0_join yX0_join, Cond.code yX0_join cX0_join 8 none, Cond.methodLink RX4 207 yX4_admitAtHint, Cond.instanceMethod yX4_admitAtHint, Cond.selects RX4 yX4_admitAtHint yX4_admitAtHint, Cond.code yX4_admitAtHint cX4_admitAtHint 4 (some .int), Cond.fieldLink RX4 182 "PartSketch$Axis" "hint" "[I", Cond.methodLink RX4 194 yX0_pinFreeGroups, Cond.instanceMethod yX0_pinFreeGroups, Cond.selects RX0 yX0_pinFreeGroups yX0_pinFreeGroups, Cond.code yX0_pinFreeGroups cX0_pinFreeGroups 3 none, Cond.fieldLink RX0 21 "PartSketch$Axis" "freeGroups" "I", Cond.fieldLink RX0 9 "PartSketch$Axis" "hint" "[I", Cond.methodLink RX0 25 yX0_join, Cond.methodLink RX4 185 yX2_measure, Cond.instanceMethod yX2_measure, Cond.selects RX2 yX2_measure yX2_measure, Cond.initialized RX2, Cond.code yX2_measure cX2_measure 4 none, Cond.fieldLink RX2 33 "PartSketch$Body" "hasBase" "Z", Cond.fieldLink RX2 37 "PartSketch$Body" "pockets" "I", Cond.fieldLink RX2 45 "PartSketch$Block" "depth" "I", Cond.methodLink RX2 41 yX2_pocketAt]
def wsX4_fails_r4 : List Cond := [Cond.instanceMethod yX2_pocketAt, Cond.selects RX2 yX2_pocketAt yX2_pocketAt, Cond.code yX2_pocketAt cX2_pocketAt 2 (some (.object "PartSketch$Block")), Cond.fieldLink RX2 11 "PartSketch$Body" "blocks" "[LPartSketch$Block;", Cond.methodLink RX2 25 yX2_base, Cond.instanceMethod yX2_base, Cond.selects RX2 yX2_base yX2_base, Cond.code yX2_base cX2_base 1 (some (.object "PartSketch$Block")), Cond.methodLink RX2 48 yX1_measure, Cond.instanceMethod yX1_measure, Cond.selects RX1 yX1_measure yX1_measure, Cond.initialized RX1, Cond.code yX1_measure cX1_measure 5 none, Cond.fieldLink RX1 7 "PartSketch$Block" "one" "I", Cond.fieldLink RX1 13 "PartSketch$Block" "other" "I", Cond.methodLink RX1 29 Lib.Math.min.name, Cond.static Lib.Math.min.name, Cond.initialized "java/lang/Math", Cond.code Lib.Math.min.name Lib.Math.min.code 2 (some .int), Cond.fieldLink RX1 35 "PartSketch$Block" "left" "I", Cond.methodLink RX1 38 Lib.Math.max.name, Cond.static Lib.Math.max.name, Cond.code Lib.Math.max.name Lib.Math.max.code 2 (some .int), Cond.fieldLink RX1 41 "PartSketch$Block" "right" "I"]
def wsX4_fails_r5 : List Cond := [Cond.fieldLink RX1 44 "PartSketch$Block" "low" "I", Cond.fieldLink RX1 47 "PartSketch$Block" "high" "I", Cond.fieldLink RX1 19 "PartSketch$Block" "outer" "LPartSketch$Block;", Cond.fieldLink RX1 50 "PartSketch$Block" "bottom" "I", Cond.fieldLink RX1 53 "PartSketch$Block" "failing" "Z", Cond.fieldLink RX1 16 "PartSketch$Block" "depth" "I", Cond.methodLink RX1 23 yX0_placeOf, Cond.instanceMethod yX0_placeOf, Cond.selects RX0 yX0_placeOf yX0_placeOf, Cond.code yX0_placeOf cX0_placeOf 2 (some .int), Cond.methodLink RX1 57 yX1_liesIn, Cond.instanceMethod yX1_liesIn, Cond.selects RX1 yX1_liesIn yX1_liesIn, Cond.code yX1_liesIn cX1_liesIn 2 (some .boolean), Cond.methodLink RX4 148 yX2_pocketAt]
def wsX4_fails : List Cond := .code yX4_fails cX4_fails 2 (some .boolean) :: ((wsX4_fails_r1 ++ (wsX4_fails_r2 ++ (wsX4_fails_r3 ++ (wsX4_fails_r4 ++ wsX4_fails_r5)))) ++ wsX40 ++ wsX10 ++ wsX20 ++ wsX30 ++ wsX00 ++ (vx_atS RX4 172 "java/lang/IndexOutOfBoundsException" ["java/lang/RuntimeException", "java/lang/Exception"]).filter goodWord)
def wsX4_volume_r1 : List Cond := [Cond.fieldLink RX4 29 "PartSketch" "body" "LPartSketch$Body;", Cond.methodLink RX4 120 yX4_measure, Cond.instanceMethod yX4_measure, Cond.selects RX4 yX4_measure yX4_measure, Cond.initialized RX4, Cond.code yX4_measure cX4_measure 1 none, Cond.fieldLink RX4 12 "PartSketch" "xAxis" "LPartSketch$Axis;", Cond.fieldLink RX4 16 "PartSketch" "yAxis" "LPartSketch$Axis;", Cond.methodLink RX4 78 yX4_settle, Cond.instanceMethod yX4_settle, Cond.selects RX4 yX4_settle yX4_settle, Cond.code yX4_settle cX4_settle 2 none, Cond.fieldLink RX4 67 "PartSketch" "settled" "Z", Cond.fieldLink RX4 22 "PartSketch" "rows" "LPartSketch$WishRows;", Cond.fieldLink RX4 62 "PartSketch$WishRows" "count" "I", Cond.fieldLink RX4 81 "PartSketch$WishRows" "state" "[I", Cond.fieldLink RX4 37 "PartSketch" "points" "I", Cond.methodLink RX4 188 yX0_loosen, Cond.instanceMethod yX0_loosen, Cond.selects RX0 yX0_loosen yX0_loosen, Cond.initialized RX0, Cond.code yX0_loosen cX0_loosen 2 none, Cond.fieldLink RX0 15 "PartSketch$Axis" "group" "[I", Cond.fieldLink RX0 18 "PartSketch$Axis" "place" "[I"]
def wsX4_volume_r2 : List Cond := [Cond.methodLink RX4 191 yX4_admit, Cond.instanceMethod yX4_admit, Cond.selects RX4 yX4_admit yX4_admit, Cond.code yX4_admit cX4_admit 5 (some .int), Cond.fieldLink RX4 197 "PartSketch$WishRows" "one" "[I", Cond.fieldLink RX4 200 "PartSketch$WishRows" "other" "[I", Cond.fieldLink RX4 91 "PartSketch$WishRows" "size" "[I", Cond.fieldLink RX4 175 "PartSketch$WishRows" "kind" "[I", Cond.methodLink RX4 203 yX4_admitApart, Cond.static yX4_admitApart, Cond.code yX4_admitApart cX4_admitApart 5 (some .int), Cond.methodLink RX4 210 yX0_judge, Cond.instanceMethod yX0_judge, Cond.selects RX0 yX0_judge yX0_judge, Cond.code yX0_judge cX0_judge 4 (some .int), Cond.methodLink RX4 214 yX0_join, Cond.instanceMethod yX0_join, Cond.selects RX0 yX0_join yX0_join, Cond.code yX0_join cX0_join 8 none, Cond.methodLink RX4 207 yX4_admitAtHint, Cond.instanceMethod yX4_admitAtHint, Cond.selects RX4 yX4_admitAtHint yX4_admitAtHint, Cond.code yX4_admitAtHint cX4_admitAtHint 4 (some .int), Cond.fieldLink RX4 182 "PartSketch$Axis" "hint" "[I"]
def wsX4_volume_r3 : List Cond := [Cond.methodLink RX4 194 yX0_pinFreeGroups, Cond.instanceMethod yX0_pinFreeGroups, Cond.selects RX0 yX0_pinFreeGroups yX0_pinFreeGroups, Cond.code yX0_pinFreeGroups cX0_pinFreeGroups 3 none, Cond.fieldLink RX0 21 "PartSketch$Axis" "freeGroups" "I", Cond.fieldLink RX0 9 "PartSketch$Axis" "hint" "[I", Cond.methodLink RX0 25 yX0_join, Cond.methodLink RX4 185 yX2_measure, Cond.instanceMethod yX2_measure, Cond.selects RX2 yX2_measure yX2_measure, Cond.initialized RX2, Cond.code yX2_measure cX2_measure 4 none, Cond.fieldLink RX2 33 "PartSketch$Body" "hasBase" "Z", Cond.fieldLink RX2 37 "PartSketch$Body" "pockets" "I", Cond.fieldLink RX2 45 "PartSketch$Block" "depth" "I", Cond.methodLink RX2 41 yX2_pocketAt, Cond.instanceMethod yX2_pocketAt, Cond.selects RX2 yX2_pocketAt yX2_pocketAt, Cond.code yX2_pocketAt cX2_pocketAt 2 (some (.object "PartSketch$Block")), Cond.fieldLink RX2 11 "PartSketch$Body" "blocks" "[LPartSketch$Block;", Cond.methodLink RX2 25 yX2_base, Cond.instanceMethod yX2_base, Cond.selects RX2 yX2_base yX2_base, Cond.code yX2_base cX2_base 1 (some (.object "PartSketch$Block"))]
def wsX4_volume_r4 : List Cond := [Cond.methodLink RX2 48 yX1_measure, Cond.instanceMethod yX1_measure, Cond.selects RX1 yX1_measure yX1_measure, Cond.initialized RX1, Cond.code yX1_measure cX1_measure 5 none, Cond.fieldLink RX1 7 "PartSketch$Block" "one" "I", Cond.fieldLink RX1 13 "PartSketch$Block" "other" "I", Cond.methodLink RX1 29 Lib.Math.min.name, Cond.static Lib.Math.min.name, Cond.initialized "java/lang/Math", Cond.code Lib.Math.min.name Lib.Math.min.code 2 (some .int), Cond.fieldLink RX1 35 "PartSketch$Block" "left" "I", Cond.methodLink RX1 38 Lib.Math.max.name, Cond.static Lib.Math.max.name, Cond.code Lib.Math.max.name Lib.Math.max.code 2 (some .int), Cond.fieldLink RX1 41 "PartSketch$Block" "right" "I", Cond.fieldLink RX1 44 "PartSketch$Block" "low" "I", Cond.fieldLink RX1 47 "PartSketch$Block" "high" "I", Cond.fieldLink RX1 19 "PartSketch$Block" "outer" "LPartSketch$Block;", Cond.fieldLink RX1 50 "PartSketch$Block" "bottom" "I", Cond.fieldLink RX1 53 "PartSketch$Block" "failing" "Z", Cond.fieldLink RX1 16 "PartSketch$Block" "depth" "I", Cond.methodLink RX1 23 yX0_placeOf, Cond.instanceMethod yX0_placeOf]
def wsX4_volume_r5 : List Cond := [Cond.selects RX0 yX0_placeOf yX0_placeOf, Cond.code yX0_placeOf cX0_placeOf 2 (some .int), Cond.methodLink RX1 57 yX1_liesIn, Cond.instanceMethod yX1_liesIn, Cond.selects RX1 yX1_liesIn yX1_liesIn, Cond.code yX1_liesIn cX1_liesIn 2 (some .boolean), Cond.methodLink RX4 152 yX2_wholeCells, Cond.instanceMethod yX2_wholeCells, Cond.selects RX2 yX2_wholeCells yX2_wholeCells, Cond.code yX2_wholeCells cX2_wholeCells 1 (some .int), Cond.fieldLink RX2 52 "PartSketch$Block" "failing" "Z", Cond.methodLink RX2 55 yX1_cells, Cond.instanceMethod yX1_cells, Cond.selects RX1 yX1_cells yX1_cells, Cond.code yX1_cells cX1_cells 1 (some .int), Cond.methodLink RX4 156 yX2_takenCells, Cond.instanceMethod yX2_takenCells, Cond.selects RX2 yX2_takenCells yX2_takenCells, Cond.code yX2_takenCells cX2_takenCells 6 (some .int), Cond.fieldLink RX2 17 "PartSketch$Body" "xSides" "[I", Cond.fieldLink RX2 21 "PartSketch$Body" "ySides" "[I", Cond.methodLink RX2 59 yX2_gatherSides, Cond.instanceMethod yX2_gatherSides, Cond.selects RX2 yX2_gatherSides yX2_gatherSides]
def wsX4_volume_r6 : List Cond := [Cond.code yX2_gatherSides cX2_gatherSides 4 (some .int), Cond.fieldLink RX2 72 "PartSketch$Block" "left" "I", Cond.fieldLink RX2 79 "PartSketch$Block" "low" "I", Cond.fieldLink RX2 82 "PartSketch$Block" "right" "I", Cond.fieldLink RX2 85 "PartSketch$Block" "high" "I", Cond.methodLink RX2 75 yX2_insertSorted, Cond.static yX2_insertSorted, Cond.code yX2_insertSorted cX2_insertSorted 4 none, Cond.methodLink RX2 62 yX2_layersTaken, Cond.instanceMethod yX2_layersTaken, Cond.selects RX2 yX2_layersTaken yX2_layersTaken, Cond.code yX2_layersTaken cX2_layersTaken 7 (some .int), Cond.methodLink RX2 88 yX1_covers, Cond.instanceMethod yX1_covers, Cond.selects RX1 yX1_covers yX1_covers, Cond.code yX1_covers cX1_covers 3 (some .boolean), Cond.methodLink RX2 92 yX1_layers, Cond.instanceMethod yX1_layers, Cond.selects RX1 yX1_layers yX1_layers, Cond.code yX1_layers cX1_layers 1 (some .long), Cond.methodLink RX2 66 yJ13_bitCount_95d88, Cond.static yJ13_bitCount_95d88, Cond.initialized RJ13, Cond.code yJ13_bitCount_95d88 cJ13_bitCount_95d88 2 (some .int)]
def wsX4_volume_r7 : List Cond := [Cond.constantLong RJ13 314 (6148914691236517205), Cond.constantLong RJ13 316 (3689348814741910323), Cond.constantLong RJ13 318 (1085102592571150095)]
def wsX4_volume : List Cond := .code yX4_volume cX4_volume 1 (some .int) :: ((wsX4_volume_r1 ++ (wsX4_volume_r2 ++ (wsX4_volume_r3 ++ (wsX4_volume_r4 ++ (wsX4_volume_r5 ++ (wsX4_volume_r6 ++ wsX4_volume_r7)))))) ++ wsX40 ++ wsX30 ++ wsX00 ++ wsX20 ++ wsX10)
def wsX4_price_r1 : List Cond := [Cond.fieldLink RX4 29 "PartSketch" "body" "LPartSketch$Body;", Cond.methodLink RX4 120 yX4_measure, Cond.instanceMethod yX4_measure, Cond.selects RX4 yX4_measure yX4_measure, Cond.initialized RX4, Cond.code yX4_measure cX4_measure 1 none, Cond.fieldLink RX4 12 "PartSketch" "xAxis" "LPartSketch$Axis;", Cond.fieldLink RX4 16 "PartSketch" "yAxis" "LPartSketch$Axis;", Cond.methodLink RX4 78 yX4_settle, Cond.instanceMethod yX4_settle, Cond.selects RX4 yX4_settle yX4_settle, Cond.code yX4_settle cX4_settle 2 none, Cond.fieldLink RX4 67 "PartSketch" "settled" "Z", Cond.fieldLink RX4 22 "PartSketch" "rows" "LPartSketch$WishRows;", Cond.fieldLink RX4 62 "PartSketch$WishRows" "count" "I", Cond.fieldLink RX4 81 "PartSketch$WishRows" "state" "[I", Cond.fieldLink RX4 37 "PartSketch" "points" "I", Cond.methodLink RX4 188 yX0_loosen, Cond.instanceMethod yX0_loosen, Cond.selects RX0 yX0_loosen yX0_loosen, Cond.initialized RX0, Cond.code yX0_loosen cX0_loosen 2 none, Cond.fieldLink RX0 15 "PartSketch$Axis" "group" "[I", Cond.fieldLink RX0 18 "PartSketch$Axis" "place" "[I"]
def wsX4_price_r2 : List Cond := [Cond.methodLink RX4 191 yX4_admit, Cond.instanceMethod yX4_admit, Cond.selects RX4 yX4_admit yX4_admit, Cond.code yX4_admit cX4_admit 5 (some .int), Cond.fieldLink RX4 197 "PartSketch$WishRows" "one" "[I", Cond.fieldLink RX4 200 "PartSketch$WishRows" "other" "[I", Cond.fieldLink RX4 91 "PartSketch$WishRows" "size" "[I", Cond.fieldLink RX4 175 "PartSketch$WishRows" "kind" "[I", Cond.methodLink RX4 203 yX4_admitApart, Cond.static yX4_admitApart, Cond.code yX4_admitApart cX4_admitApart 5 (some .int), Cond.methodLink RX4 210 yX0_judge, Cond.instanceMethod yX0_judge, Cond.selects RX0 yX0_judge yX0_judge, Cond.code yX0_judge cX0_judge 4 (some .int), Cond.methodLink RX4 214 yX0_join, Cond.instanceMethod yX0_join, Cond.selects RX0 yX0_join yX0_join, Cond.code yX0_join cX0_join 8 none, Cond.methodLink RX4 207 yX4_admitAtHint, Cond.instanceMethod yX4_admitAtHint, Cond.selects RX4 yX4_admitAtHint yX4_admitAtHint, Cond.code yX4_admitAtHint cX4_admitAtHint 4 (some .int), Cond.fieldLink RX4 182 "PartSketch$Axis" "hint" "[I"]
def wsX4_price_r3 : List Cond := [Cond.methodLink RX4 194 yX0_pinFreeGroups, Cond.instanceMethod yX0_pinFreeGroups, Cond.selects RX0 yX0_pinFreeGroups yX0_pinFreeGroups, Cond.code yX0_pinFreeGroups cX0_pinFreeGroups 3 none, Cond.fieldLink RX0 21 "PartSketch$Axis" "freeGroups" "I", Cond.fieldLink RX0 9 "PartSketch$Axis" "hint" "[I", Cond.methodLink RX0 25 yX0_join, Cond.methodLink RX4 185 yX2_measure, Cond.instanceMethod yX2_measure, Cond.selects RX2 yX2_measure yX2_measure, Cond.initialized RX2, Cond.code yX2_measure cX2_measure 4 none, Cond.fieldLink RX2 33 "PartSketch$Body" "hasBase" "Z", Cond.fieldLink RX2 37 "PartSketch$Body" "pockets" "I", Cond.fieldLink RX2 45 "PartSketch$Block" "depth" "I", Cond.methodLink RX2 41 yX2_pocketAt, Cond.instanceMethod yX2_pocketAt, Cond.selects RX2 yX2_pocketAt yX2_pocketAt, Cond.code yX2_pocketAt cX2_pocketAt 2 (some (.object "PartSketch$Block")), Cond.fieldLink RX2 11 "PartSketch$Body" "blocks" "[LPartSketch$Block;", Cond.methodLink RX2 25 yX2_base, Cond.instanceMethod yX2_base, Cond.selects RX2 yX2_base yX2_base, Cond.code yX2_base cX2_base 1 (some (.object "PartSketch$Block"))]
def wsX4_price_r4 : List Cond := [Cond.methodLink RX2 48 yX1_measure, Cond.instanceMethod yX1_measure, Cond.selects RX1 yX1_measure yX1_measure, Cond.initialized RX1, Cond.code yX1_measure cX1_measure 5 none, Cond.fieldLink RX1 7 "PartSketch$Block" "one" "I", Cond.fieldLink RX1 13 "PartSketch$Block" "other" "I", Cond.methodLink RX1 29 Lib.Math.min.name, Cond.static Lib.Math.min.name, Cond.initialized "java/lang/Math", Cond.code Lib.Math.min.name Lib.Math.min.code 2 (some .int), Cond.fieldLink RX1 35 "PartSketch$Block" "left" "I", Cond.methodLink RX1 38 Lib.Math.max.name, Cond.static Lib.Math.max.name, Cond.code Lib.Math.max.name Lib.Math.max.code 2 (some .int), Cond.fieldLink RX1 41 "PartSketch$Block" "right" "I", Cond.fieldLink RX1 44 "PartSketch$Block" "low" "I", Cond.fieldLink RX1 47 "PartSketch$Block" "high" "I", Cond.fieldLink RX1 19 "PartSketch$Block" "outer" "LPartSketch$Block;", Cond.fieldLink RX1 50 "PartSketch$Block" "bottom" "I", Cond.fieldLink RX1 53 "PartSketch$Block" "failing" "Z", Cond.fieldLink RX1 16 "PartSketch$Block" "depth" "I", Cond.methodLink RX1 23 yX0_placeOf, Cond.instanceMethod yX0_placeOf]
def wsX4_price_r5 : List Cond := [Cond.selects RX0 yX0_placeOf yX0_placeOf, Cond.code yX0_placeOf cX0_placeOf 2 (some .int), Cond.methodLink RX1 57 yX1_liesIn, Cond.instanceMethod yX1_liesIn, Cond.selects RX1 yX1_liesIn yX1_liesIn, Cond.code yX1_liesIn cX1_liesIn 2 (some .boolean), Cond.methodLink RX4 152 yX2_wholeCells, Cond.instanceMethod yX2_wholeCells, Cond.selects RX2 yX2_wholeCells yX2_wholeCells, Cond.code yX2_wholeCells cX2_wholeCells 1 (some .int), Cond.fieldLink RX2 52 "PartSketch$Block" "failing" "Z", Cond.methodLink RX2 55 yX1_cells, Cond.instanceMethod yX1_cells, Cond.selects RX1 yX1_cells yX1_cells, Cond.code yX1_cells cX1_cells 1 (some .int), Cond.methodLink RX4 156 yX2_takenCells, Cond.instanceMethod yX2_takenCells, Cond.selects RX2 yX2_takenCells yX2_takenCells, Cond.code yX2_takenCells cX2_takenCells 6 (some .int), Cond.fieldLink RX2 17 "PartSketch$Body" "xSides" "[I", Cond.fieldLink RX2 21 "PartSketch$Body" "ySides" "[I", Cond.methodLink RX2 59 yX2_gatherSides, Cond.instanceMethod yX2_gatherSides, Cond.selects RX2 yX2_gatherSides yX2_gatherSides]
def wsX4_price_r6 : List Cond := [Cond.code yX2_gatherSides cX2_gatherSides 4 (some .int), Cond.fieldLink RX2 72 "PartSketch$Block" "left" "I", Cond.fieldLink RX2 79 "PartSketch$Block" "low" "I", Cond.fieldLink RX2 82 "PartSketch$Block" "right" "I", Cond.fieldLink RX2 85 "PartSketch$Block" "high" "I", Cond.methodLink RX2 75 yX2_insertSorted, Cond.static yX2_insertSorted, Cond.code yX2_insertSorted cX2_insertSorted 4 none, Cond.methodLink RX2 62 yX2_layersTaken, Cond.instanceMethod yX2_layersTaken, Cond.selects RX2 yX2_layersTaken yX2_layersTaken, Cond.code yX2_layersTaken cX2_layersTaken 7 (some .int), Cond.methodLink RX2 88 yX1_covers, Cond.instanceMethod yX1_covers, Cond.selects RX1 yX1_covers yX1_covers, Cond.code yX1_covers cX1_covers 3 (some .boolean), Cond.methodLink RX2 92 yX1_layers, Cond.instanceMethod yX1_layers, Cond.selects RX1 yX1_layers yX1_layers, Cond.code yX1_layers cX1_layers 1 (some .long), Cond.methodLink RX2 66 yJ13_bitCount_95d88, Cond.static yJ13_bitCount_95d88, Cond.initialized RJ13, Cond.code yJ13_bitCount_95d88 cJ13_bitCount_95d88 2 (some .int)]
def wsX4_price_r7 : List Cond := [Cond.constantLong RJ13 314 (6148914691236517205), Cond.constantLong RJ13 316 (3689348814741910323), Cond.constantLong RJ13 318 (1085102592571150095), Cond.methodLink RX4 159 yX2_differentDepths, Cond.instanceMethod yX2_differentDepths, Cond.selects RX2 yX2_differentDepths yX2_differentDepths, Cond.code yX2_differentDepths cX2_differentDepths 5 (some .int)]
def wsX4_price : List Cond := .code yX4_price cX4_price 1 (some .int) :: ((wsX4_price_r1 ++ (wsX4_price_r2 ++ (wsX4_price_r3 ++ (wsX4_price_r4 ++ (wsX4_price_r5 ++ (wsX4_price_r6 ++ wsX4_price_r7)))))) ++ wsX40 ++ wsX30 ++ wsX00 ++ wsX20 ++ wsX10)
def wsX5_init_r1 : List Cond := [Cond.methodLink RX5 1 objectInit, Cond.instanceMethod objectInit, Cond.code objectInit ⟨#[0xb1]⟩ 1 none, Cond.arrayClass .int, Cond.fieldLink RX5 7 "PartSketchModel" "hintX" "[I", Cond.fieldLink RX5 13 "PartSketchModel" "hintY" "[I", Cond.fieldLink RX5 16 "PartSketchModel" "kind" "[I", Cond.fieldLink RX5 19 "PartSketchModel" "one" "[I", Cond.fieldLink RX5 22 "PartSketchModel" "other" "[I", Cond.fieldLink RX5 25 "PartSketchModel" "size" "[I", Cond.fieldLink RX5 28 "PartSketchModel" "state" "[I", Cond.fieldLink RX5 31 "PartSketchModel" "sizes" "[I", Cond.arrayClass .boolean, Cond.fieldLink RX5 34 "PartSketchModel" "tells" "[Z", Cond.fieldLink RX5 38 "PartSketchModel" "group" "[I", Cond.fieldLink RX5 41 "PartSketchModel" "off" "[I", Cond.fieldLink RX5 44 "PartSketchModel" "corner" "[I", Cond.fieldLink RX5 47 "PartSketchModel" "against" "[I", Cond.fieldLink RX5 50 "PartSketchModel" "depth" "[I", Cond.fieldLink RX5 53 "PartSketchModel" "within" "[I", Cond.fieldLink RX5 56 "PartSketchModel" "side" "[I", Cond.fieldLink RX5 59 "PartSketchModel" "begins" "[I", Cond.fieldLink RX5 62 "PartSketchModel" "failing" "[Z", Cond.fieldLink RX5 65 "PartSketchModel" "cutX" "[I"]
def wsX5_init_r2 : List Cond := [Cond.fieldLink RX5 68 "PartSketchModel" "cutY" "[I", Cond.fieldLink RX5 71 "PartSketchModel" "cutZ" "[I"]
def wsX5_init : List Cond := .code yX5_init cX5_init 1 none :: ((wsX5_init_r1 ++ wsX5_init_r2) ++ wsX50)
def wsX5_thrown : List Cond := .code yX5_thrown cX5_thrown 1 (some .int) :: ([.fieldLink RX5 74 "PartSketchModel" "thrown" "I"] ++ wsX50)
def wsX5_refuses : List Cond := .code yX5_refuses cX5_refuses 2 (some .int) :: ([.fieldLink RX5 74 "PartSketchModel" "thrown" "I"] ++ wsX50)
def wsX5_in : List Cond := .code yX5_in cX5_in 3 (some .boolean) :: ([])
def wsX5_isNear : List Cond := .code yX5_isNear cX5_isNear 1 (some .boolean) :: ([.methodLink RX5 78 yX5_in, .static yX5_in, .initialized RX5, .code yX5_in cX5_in 3 (some .boolean)])
def wsX5_isPoint : List Cond := .code yX5_isPoint cX5_isPoint 2 (some .boolean) :: ([.fieldLink RX5 82 "PartSketchModel" "points" "I", .methodLink RX5 78 yX5_in, .static yX5_in, .initialized RX5, .code yX5_in cX5_in 3 (some .boolean)] ++ wsX50)
def wsX5_isWish : List Cond := .code yX5_isWish cX5_isWish 2 (some .boolean) :: ([.fieldLink RX5 85 "PartSketchModel" "wishes" "I", .methodLink RX5 78 yX5_in, .static yX5_in, .initialized RX5, .code yX5_in cX5_in 3 (some .boolean)] ++ wsX50)
def wsX5_holds : List Cond := .code yX5_holds cX5_holds 7 (some .int) :: ([.fieldLink RX5 38 "PartSketchModel" "group" "[I", .fieldLink RX5 41 "PartSketchModel" "off" "[I"] ++ wsX50)
def wsX5_ties : List Cond := .code yX5_ties cX5_ties 10 none :: ([.fieldLink RX5 38 "PartSketchModel" "group" "[I", .fieldLink RX5 41 "PartSketchModel" "off" "[I"] ++ wsX50)
def wsX5_solves : List Cond := .code yX5_solves cX5_solves 5 none :: ([.fieldLink RX5 38 "PartSketchModel" "group" "[I", .fieldLink RX5 41 "PartSketchModel" "off" "[I", .fieldLink RX5 85 "PartSketchModel" "wishes" "I", .fieldLink RX5 19 "PartSketchModel" "one" "[I", .fieldLink RX5 16 "PartSketchModel" "kind" "[I", .fieldLink RX5 28 "PartSketchModel" "state" "[I", .fieldLink RX5 22 "PartSketchModel" "other" "[I", .fieldLink RX5 25 "PartSketchModel" "size" "[I", .fieldLink RX5 7 "PartSketchModel" "hintX" "[I", .fieldLink RX5 13 "PartSketchModel" "hintY" "[I", .methodLink RX5 88 yX5_holds, .instanceMethod yX5_holds, .selects RX5 yX5_holds yX5_holds, .initialized RX5, .code yX5_holds cX5_holds 7 (some .int), .methodLink RX5 92 yX5_ties, .instanceMethod yX5_ties, .selects RX5 yX5_ties yX5_ties, .code yX5_ties cX5_ties 10 none] ++ wsX50)
def wsX5_placeOf : List Cond := .code yX5_placeOf cX5_placeOf 7 (some .int) :: ([.fieldLink RX5 38 "PartSketchModel" "group" "[I", .fieldLink RX5 41 "PartSketchModel" "off" "[I", .fieldLink RX5 7 "PartSketchModel" "hintX" "[I", .fieldLink RX5 13 "PartSketchModel" "hintY" "[I"] ++ wsX50)
def wsX5_point : List Cond := .code yX5_point cX5_point 3 (some .int) :: ([.fieldLink RX5 74 "PartSketchModel" "thrown" "I", .fieldLink RX5 82 "PartSketchModel" "points" "I", .fieldLink RX5 7 "PartSketchModel" "hintX" "[I", .fieldLink RX5 13 "PartSketchModel" "hintY" "[I", .methodLink RX5 96 yX5_isNear, .static yX5_isNear, .initialized RX5, .code yX5_isNear cX5_isNear 1 (some .boolean), .methodLink RX5 78 yX5_in, .static yX5_in, .code yX5_in cX5_in 3 (some .boolean), .methodLink RX5 100 yX5_refuses, .instanceMethod yX5_refuses, .selects RX5 yX5_refuses yX5_refuses, .code yX5_refuses cX5_refuses 2 (some .int)] ++ wsX50)
def wsX5_hint : List Cond := .code yX5_hint cX5_hint 4 none :: ([.fieldLink RX5 74 "PartSketchModel" "thrown" "I", .fieldLink RX5 7 "PartSketchModel" "hintX" "[I", .fieldLink RX5 13 "PartSketchModel" "hintY" "[I", .methodLink RX5 104 yX5_isPoint, .instanceMethod yX5_isPoint, .selects RX5 yX5_isPoint yX5_isPoint, .initialized RX5, .code yX5_isPoint cX5_isPoint 2 (some .boolean), .fieldLink RX5 82 "PartSketchModel" "points" "I", .methodLink RX5 78 yX5_in, .static yX5_in, .code yX5_in cX5_in 3 (some .boolean), .methodLink RX5 96 yX5_isNear, .static yX5_isNear, .code yX5_isNear cX5_isNear 1 (some .boolean)] ++ wsX50)
def wsX5_wish : List Cond := .code yX5_wish cX5_wish 6 (some .int) :: ([.fieldLink RX5 74 "PartSketchModel" "thrown" "I", .fieldLink RX5 85 "PartSketchModel" "wishes" "I", .fieldLink RX5 16 "PartSketchModel" "kind" "[I", .fieldLink RX5 19 "PartSketchModel" "one" "[I", .fieldLink RX5 22 "PartSketchModel" "other" "[I", .fieldLink RX5 25 "PartSketchModel" "size" "[I", .fieldLink RX5 34 "PartSketchModel" "tells" "[Z", .methodLink RX5 78 yX5_in, .static yX5_in, .initialized RX5, .code yX5_in cX5_in 3 (some .boolean), .methodLink RX5 96 yX5_isNear, .static yX5_isNear, .code yX5_isNear cX5_isNear 1 (some .boolean), .methodLink RX5 100 yX5_refuses, .instanceMethod yX5_refuses, .selects RX5 yX5_refuses yX5_refuses, .code yX5_refuses cX5_refuses 2 (some .int), .methodLink RX5 104 yX5_isPoint, .instanceMethod yX5_isPoint, .selects RX5 yX5_isPoint yX5_isPoint, .code yX5_isPoint cX5_isPoint 2 (some .boolean), .fieldLink RX5 82 "PartSketchModel" "points" "I"] ++ wsX50)
def wsX5_remove_r1 : List Cond := [Cond.fieldLink RX5 74 "PartSketchModel" "thrown" "I", Cond.fieldLink RX5 28 "PartSketchModel" "state" "[I", Cond.fieldLink RX5 85 "PartSketchModel" "wishes" "I", Cond.fieldLink RX5 16 "PartSketchModel" "kind" "[I", Cond.fieldLink RX5 19 "PartSketchModel" "one" "[I", Cond.fieldLink RX5 22 "PartSketchModel" "other" "[I", Cond.fieldLink RX5 25 "PartSketchModel" "size" "[I", Cond.fieldLink RX5 31 "PartSketchModel" "sizes" "[I", Cond.fieldLink RX5 34 "PartSketchModel" "tells" "[Z", Cond.methodLink RX5 107 yX5_isWish, Cond.instanceMethod yX5_isWish, Cond.selects RX5 yX5_isWish yX5_isWish, Cond.initialized RX5, Cond.code yX5_isWish cX5_isWish 2 (some .boolean), Cond.methodLink RX5 78 yX5_in, Cond.static yX5_in, Cond.code yX5_in cX5_in 3 (some .boolean), Cond.methodLink RX5 100 yX5_refuses, Cond.instanceMethod yX5_refuses, Cond.selects RX5 yX5_refuses yX5_refuses, Cond.code yX5_refuses cX5_refuses 2 (some .int), Cond.methodLink RX5 110 yX5_solves, Cond.instanceMethod yX5_solves, Cond.selects RX5 yX5_solves yX5_solves]
def wsX5_remove_r2 : List Cond := [Cond.code yX5_solves cX5_solves 5 none, Cond.fieldLink RX5 38 "PartSketchModel" "group" "[I", Cond.fieldLink RX5 41 "PartSketchModel" "off" "[I", Cond.fieldLink RX5 7 "PartSketchModel" "hintX" "[I", Cond.fieldLink RX5 13 "PartSketchModel" "hintY" "[I", Cond.methodLink RX5 88 yX5_holds, Cond.instanceMethod yX5_holds, Cond.selects RX5 yX5_holds yX5_holds, Cond.code yX5_holds cX5_holds 7 (some .int), Cond.methodLink RX5 92 yX5_ties, Cond.instanceMethod yX5_ties, Cond.selects RX5 yX5_ties yX5_ties, Cond.code yX5_ties cX5_ties 10 none]
def wsX5_remove : List Cond := .code yX5_remove cX5_remove 5 (some .int) :: ((wsX5_remove_r1 ++ wsX5_remove_r2) ++ wsX50)
def wsX5_type : List Cond := .code yX5_type cX5_type 4 (some .int) :: ([.fieldLink RX5 74 "PartSketchModel" "thrown" "I", .fieldLink RX5 16 "PartSketchModel" "kind" "[I", .fieldLink RX5 25 "PartSketchModel" "size" "[I", .methodLink RX5 107 yX5_isWish, .instanceMethod yX5_isWish, .selects RX5 yX5_isWish yX5_isWish, .initialized RX5, .code yX5_isWish cX5_isWish 2 (some .boolean), .fieldLink RX5 85 "PartSketchModel" "wishes" "I", .methodLink RX5 78 yX5_in, .static yX5_in, .code yX5_in cX5_in 3 (some .boolean), .methodLink RX5 100 yX5_refuses, .instanceMethod yX5_refuses, .selects RX5 yX5_refuses yX5_refuses, .code yX5_refuses cX5_refuses 2 (some .int), .methodLink RX5 96 yX5_isNear, .static yX5_isNear, .code yX5_isNear cX5_isNear 1 (some .boolean)] ++ wsX50)
def wsX5_state_r1 : List Cond := [Cond.fieldLink RX5 74 "PartSketchModel" "thrown" "I", Cond.fieldLink RX5 28 "PartSketchModel" "state" "[I", Cond.methodLink RX5 107 yX5_isWish, Cond.instanceMethod yX5_isWish, Cond.selects RX5 yX5_isWish yX5_isWish, Cond.initialized RX5, Cond.code yX5_isWish cX5_isWish 2 (some .boolean), Cond.fieldLink RX5 85 "PartSketchModel" "wishes" "I", Cond.methodLink RX5 78 yX5_in, Cond.static yX5_in, Cond.code yX5_in cX5_in 3 (some .boolean), Cond.methodLink RX5 100 yX5_refuses, Cond.instanceMethod yX5_refuses, Cond.selects RX5 yX5_refuses yX5_refuses, Cond.code yX5_refuses cX5_refuses 2 (some .int), Cond.methodLink RX5 110 yX5_solves, Cond.instanceMethod yX5_solves, Cond.selects RX5 yX5_solves yX5_solves, Cond.code yX5_solves cX5_solves 5 none, Cond.fieldLink RX5 38 "PartSketchModel" "group" "[I", Cond.fieldLink RX5 41 "PartSketchModel" "off" "[I", Cond.fieldLink RX5 19 "PartSketchModel" "one" "[I", Cond.fieldLink RX5 16 "PartSketchModel" "kind" "[I", Cond.fieldLink RX5 22 "PartSketchModel" "other" "[I"]
def wsX5_state_r2 : List Cond := [Cond.fieldLink RX5 25 "PartSketchModel" "size" "[I", Cond.fieldLink RX5 7 "PartSketchModel" "hintX" "[I", Cond.fieldLink RX5 13 "PartSketchModel" "hintY" "[I", Cond.methodLink RX5 88 yX5_holds, Cond.instanceMethod yX5_holds, Cond.selects RX5 yX5_holds yX5_holds, Cond.code yX5_holds cX5_holds 7 (some .int), Cond.methodLink RX5 92 yX5_ties, Cond.instanceMethod yX5_ties, Cond.selects RX5 yX5_ties yX5_ties, Cond.code yX5_ties cX5_ties 10 none]
def wsX5_state : List Cond := .code yX5_state cX5_state 2 (some .int) :: ((wsX5_state_r1 ++ wsX5_state_r2) ++ wsX50)
def wsX5_wishes : List Cond := .code yX5_wishes cX5_wishes 1 (some .int) :: ([.fieldLink RX5 74 "PartSketchModel" "thrown" "I", .fieldLink RX5 85 "PartSketchModel" "wishes" "I"] ++ wsX50)
def wsX5_freedom_r1 : List Cond := [Cond.fieldLink RX5 74 "PartSketchModel" "thrown" "I", Cond.fieldLink RX5 82 "PartSketchModel" "points" "I", Cond.fieldLink RX5 38 "PartSketchModel" "group" "[I", Cond.methodLink RX5 110 yX5_solves, Cond.instanceMethod yX5_solves, Cond.selects RX5 yX5_solves yX5_solves, Cond.initialized RX5, Cond.code yX5_solves cX5_solves 5 none, Cond.fieldLink RX5 41 "PartSketchModel" "off" "[I", Cond.fieldLink RX5 85 "PartSketchModel" "wishes" "I", Cond.fieldLink RX5 19 "PartSketchModel" "one" "[I", Cond.fieldLink RX5 16 "PartSketchModel" "kind" "[I", Cond.fieldLink RX5 28 "PartSketchModel" "state" "[I", Cond.fieldLink RX5 22 "PartSketchModel" "other" "[I", Cond.fieldLink RX5 25 "PartSketchModel" "size" "[I", Cond.fieldLink RX5 7 "PartSketchModel" "hintX" "[I", Cond.fieldLink RX5 13 "PartSketchModel" "hintY" "[I", Cond.methodLink RX5 88 yX5_holds, Cond.instanceMethod yX5_holds, Cond.selects RX5 yX5_holds yX5_holds, Cond.code yX5_holds cX5_holds 7 (some .int), Cond.methodLink RX5 92 yX5_ties, Cond.instanceMethod yX5_ties, Cond.selects RX5 yX5_ties yX5_ties]
def wsX5_freedom_r2 : List Cond := [Cond.code yX5_ties cX5_ties 10 none]
def wsX5_freedom : List Cond := .code yX5_freedom cX5_freedom 6 (some .int) :: ((wsX5_freedom_r1 ++ wsX5_freedom_r2) ++ wsX50)
def wsX5_x_r1 : List Cond := [Cond.fieldLink RX5 74 "PartSketchModel" "thrown" "I", Cond.methodLink RX5 104 yX5_isPoint, Cond.instanceMethod yX5_isPoint, Cond.selects RX5 yX5_isPoint yX5_isPoint, Cond.initialized RX5, Cond.code yX5_isPoint cX5_isPoint 2 (some .boolean), Cond.fieldLink RX5 82 "PartSketchModel" "points" "I", Cond.methodLink RX5 78 yX5_in, Cond.static yX5_in, Cond.code yX5_in cX5_in 3 (some .boolean), Cond.methodLink RX5 100 yX5_refuses, Cond.instanceMethod yX5_refuses, Cond.selects RX5 yX5_refuses yX5_refuses, Cond.code yX5_refuses cX5_refuses 2 (some .int), Cond.methodLink RX5 110 yX5_solves, Cond.instanceMethod yX5_solves, Cond.selects RX5 yX5_solves yX5_solves, Cond.code yX5_solves cX5_solves 5 none, Cond.fieldLink RX5 38 "PartSketchModel" "group" "[I", Cond.fieldLink RX5 41 "PartSketchModel" "off" "[I", Cond.fieldLink RX5 85 "PartSketchModel" "wishes" "I", Cond.fieldLink RX5 19 "PartSketchModel" "one" "[I", Cond.fieldLink RX5 16 "PartSketchModel" "kind" "[I", Cond.fieldLink RX5 28 "PartSketchModel" "state" "[I"]
def wsX5_x_r2 : List Cond := [Cond.fieldLink RX5 22 "PartSketchModel" "other" "[I", Cond.fieldLink RX5 25 "PartSketchModel" "size" "[I", Cond.fieldLink RX5 7 "PartSketchModel" "hintX" "[I", Cond.fieldLink RX5 13 "PartSketchModel" "hintY" "[I", Cond.methodLink RX5 88 yX5_holds, Cond.instanceMethod yX5_holds, Cond.selects RX5 yX5_holds yX5_holds, Cond.code yX5_holds cX5_holds 7 (some .int), Cond.methodLink RX5 92 yX5_ties, Cond.instanceMethod yX5_ties, Cond.selects RX5 yX5_ties yX5_ties, Cond.code yX5_ties cX5_ties 10 none, Cond.methodLink RX5 113 yX5_placeOf, Cond.instanceMethod yX5_placeOf, Cond.selects RX5 yX5_placeOf yX5_placeOf, Cond.code yX5_placeOf cX5_placeOf 7 (some .int)]
def wsX5_x : List Cond := .code yX5_x cX5_x 2 (some .int) :: ((wsX5_x_r1 ++ wsX5_x_r2) ++ wsX50)
def wsX5_y_r1 : List Cond := [Cond.fieldLink RX5 74 "PartSketchModel" "thrown" "I", Cond.methodLink RX5 104 yX5_isPoint, Cond.instanceMethod yX5_isPoint, Cond.selects RX5 yX5_isPoint yX5_isPoint, Cond.initialized RX5, Cond.code yX5_isPoint cX5_isPoint 2 (some .boolean), Cond.fieldLink RX5 82 "PartSketchModel" "points" "I", Cond.methodLink RX5 78 yX5_in, Cond.static yX5_in, Cond.code yX5_in cX5_in 3 (some .boolean), Cond.methodLink RX5 100 yX5_refuses, Cond.instanceMethod yX5_refuses, Cond.selects RX5 yX5_refuses yX5_refuses, Cond.code yX5_refuses cX5_refuses 2 (some .int), Cond.methodLink RX5 110 yX5_solves, Cond.instanceMethod yX5_solves, Cond.selects RX5 yX5_solves yX5_solves, Cond.code yX5_solves cX5_solves 5 none, Cond.fieldLink RX5 38 "PartSketchModel" "group" "[I", Cond.fieldLink RX5 41 "PartSketchModel" "off" "[I", Cond.fieldLink RX5 85 "PartSketchModel" "wishes" "I", Cond.fieldLink RX5 19 "PartSketchModel" "one" "[I", Cond.fieldLink RX5 16 "PartSketchModel" "kind" "[I", Cond.fieldLink RX5 28 "PartSketchModel" "state" "[I"]
def wsX5_y_r2 : List Cond := [Cond.fieldLink RX5 22 "PartSketchModel" "other" "[I", Cond.fieldLink RX5 25 "PartSketchModel" "size" "[I", Cond.fieldLink RX5 7 "PartSketchModel" "hintX" "[I", Cond.fieldLink RX5 13 "PartSketchModel" "hintY" "[I", Cond.methodLink RX5 88 yX5_holds, Cond.instanceMethod yX5_holds, Cond.selects RX5 yX5_holds yX5_holds, Cond.code yX5_holds cX5_holds 7 (some .int), Cond.methodLink RX5 92 yX5_ties, Cond.instanceMethod yX5_ties, Cond.selects RX5 yX5_ties yX5_ties, Cond.code yX5_ties cX5_ties 10 none, Cond.methodLink RX5 113 yX5_placeOf, Cond.instanceMethod yX5_placeOf, Cond.selects RX5 yX5_placeOf yX5_placeOf, Cond.code yX5_placeOf cX5_placeOf 7 (some .int)]
def wsX5_y : List Cond := .code yX5_y cX5_y 2 (some .int) :: ((wsX5_y_r1 ++ wsX5_y_r2) ++ wsX50)
def wsX5_tell : List Cond := .code yX5_tell cX5_tell 6 (some .int) :: ([.fieldLink RX5 74 "PartSketchModel" "thrown" "I", .fieldLink RX5 16 "PartSketchModel" "kind" "[I", .fieldLink RX5 31 "PartSketchModel" "sizes" "[I", .fieldLink RX5 34 "PartSketchModel" "tells" "[Z", .fieldLink RX5 85 "PartSketchModel" "wishes" "I", .methodLink RX5 78 yX5_in, .static yX5_in, .initialized RX5, .code yX5_in cX5_in 3 (some .boolean), .methodLink RX5 96 yX5_isNear, .static yX5_isNear, .code yX5_isNear cX5_isNear 1 (some .boolean), .methodLink RX5 100 yX5_refuses, .instanceMethod yX5_refuses, .selects RX5 yX5_refuses yX5_refuses, .code yX5_refuses cX5_refuses 2 (some .int), .methodLink RX5 107 yX5_isWish, .instanceMethod yX5_isWish, .selects RX5 yX5_isWish yX5_isWish, .code yX5_isWish cX5_isWish 2 (some .boolean)] ++ wsX50)
def wsX5_choose : List Cond := .code yX5_choose cX5_choose 5 (some .int) :: ([.fieldLink RX5 74 "PartSketchModel" "thrown" "I", .fieldLink RX5 85 "PartSketchModel" "wishes" "I", .fieldLink RX5 34 "PartSketchModel" "tells" "[Z", .fieldLink RX5 25 "PartSketchModel" "size" "[I", .fieldLink RX5 31 "PartSketchModel" "sizes" "[I", .methodLink RX5 78 yX5_in, .static yX5_in, .initialized RX5, .code yX5_in cX5_in 3 (some .boolean), .methodLink RX5 100 yX5_refuses, .instanceMethod yX5_refuses, .selects RX5 yX5_refuses yX5_refuses, .code yX5_refuses cX5_refuses 2 (some .int)] ++ wsX50)
def wsX5_sides : List Cond := .code yX5_sides cX5_sides 8 none :: ([.fieldLink RX5 56 "PartSketchModel" "side" "[I", .methodLink RX5 113 yX5_placeOf, .instanceMethod yX5_placeOf, .selects RX5 yX5_placeOf yX5_placeOf, .initialized RX5, .code yX5_placeOf cX5_placeOf 7 (some .int), .fieldLink RX5 38 "PartSketchModel" "group" "[I", .fieldLink RX5 41 "PartSketchModel" "off" "[I", .fieldLink RX5 7 "PartSketchModel" "hintX" "[I", .fieldLink RX5 13 "PartSketchModel" "hintY" "[I"] ++ wsX50)
def wsX5_isFlat : List Cond := .code yX5_isFlat cX5_isFlat 2 (some .boolean) :: ([.fieldLink RX5 56 "PartSketchModel" "side" "[I"] ++ wsX50)
def wsX5_lies : List Cond := .code yX5_lies cX5_lies 3 (some .boolean) :: ([.fieldLink RX5 56 "PartSketchModel" "side" "[I"] ++ wsX50)
def wsX5_builds_r1 : List Cond := [Cond.fieldLink RX5 117 "PartSketchModel" "isBase" "Z", Cond.fieldLink RX5 121 "PartSketchModel" "baseOne" "I", Cond.fieldLink RX5 124 "PartSketchModel" "baseOther" "I", Cond.fieldLink RX5 62 "PartSketchModel" "failing" "[Z", Cond.fieldLink RX5 134 "PartSketchModel" "pockets" "I", Cond.fieldLink RX5 53 "PartSketchModel" "within" "[I", Cond.fieldLink RX5 44 "PartSketchModel" "corner" "[I", Cond.fieldLink RX5 47 "PartSketchModel" "against" "[I", Cond.fieldLink RX5 59 "PartSketchModel" "begins" "[I", Cond.fieldLink RX5 50 "PartSketchModel" "depth" "[I", Cond.fieldLink RX5 141 "PartSketchModel" "height" "I", Cond.methodLink RX5 110 yX5_solves, Cond.instanceMethod yX5_solves, Cond.selects RX5 yX5_solves yX5_solves, Cond.initialized RX5, Cond.code yX5_solves cX5_solves 5 none, Cond.fieldLink RX5 38 "PartSketchModel" "group" "[I", Cond.fieldLink RX5 41 "PartSketchModel" "off" "[I", Cond.fieldLink RX5 85 "PartSketchModel" "wishes" "I", Cond.fieldLink RX5 19 "PartSketchModel" "one" "[I", Cond.fieldLink RX5 16 "PartSketchModel" "kind" "[I", Cond.fieldLink RX5 28 "PartSketchModel" "state" "[I", Cond.fieldLink RX5 22 "PartSketchModel" "other" "[I", Cond.fieldLink RX5 25 "PartSketchModel" "size" "[I"]
def wsX5_builds_r2 : List Cond := [Cond.fieldLink RX5 7 "PartSketchModel" "hintX" "[I", Cond.fieldLink RX5 13 "PartSketchModel" "hintY" "[I", Cond.methodLink RX5 88 yX5_holds, Cond.instanceMethod yX5_holds, Cond.selects RX5 yX5_holds yX5_holds, Cond.code yX5_holds cX5_holds 7 (some .int), Cond.methodLink RX5 92 yX5_ties, Cond.instanceMethod yX5_ties, Cond.selects RX5 yX5_ties yX5_ties, Cond.code yX5_ties cX5_ties 10 none, Cond.methodLink RX5 127 yX5_sides, Cond.instanceMethod yX5_sides, Cond.selects RX5 yX5_sides yX5_sides, Cond.code yX5_sides cX5_sides 8 none, Cond.fieldLink RX5 56 "PartSketchModel" "side" "[I", Cond.methodLink RX5 113 yX5_placeOf, Cond.instanceMethod yX5_placeOf, Cond.selects RX5 yX5_placeOf yX5_placeOf, Cond.code yX5_placeOf cX5_placeOf 7 (some .int), Cond.methodLink RX5 131 yX5_isFlat, Cond.instanceMethod yX5_isFlat, Cond.selects RX5 yX5_isFlat yX5_isFlat, Cond.code yX5_isFlat cX5_isFlat 2 (some .boolean), Cond.methodLink RX5 137 yX5_lies]
def wsX5_builds_r3 : List Cond := [Cond.instanceMethod yX5_lies, Cond.selects RX5 yX5_lies yX5_lies, Cond.code yX5_lies cX5_lies 3 (some .boolean)]
def wsX5_builds : List Cond := .code yX5_builds cX5_builds 3 none :: ((wsX5_builds_r1 ++ (wsX5_builds_r2 ++ wsX5_builds_r3)) ++ wsX50)
def wsX5_setBase_r1 : List Cond := [Cond.fieldLink RX5 74 "PartSketchModel" "thrown" "I", Cond.fieldLink RX5 117 "PartSketchModel" "isBase" "Z", Cond.fieldLink RX5 121 "PartSketchModel" "baseOne" "I", Cond.fieldLink RX5 124 "PartSketchModel" "baseOther" "I", Cond.fieldLink RX5 141 "PartSketchModel" "height" "I", Cond.fieldLink RX5 62 "PartSketchModel" "failing" "[Z", Cond.methodLink RX5 104 yX5_isPoint, Cond.instanceMethod yX5_isPoint, Cond.selects RX5 yX5_isPoint yX5_isPoint, Cond.initialized RX5, Cond.code yX5_isPoint cX5_isPoint 2 (some .boolean), Cond.fieldLink RX5 82 "PartSketchModel" "points" "I", Cond.methodLink RX5 78 yX5_in, Cond.static yX5_in, Cond.code yX5_in cX5_in 3 (some .boolean), Cond.methodLink RX5 144 yX5_builds, Cond.instanceMethod yX5_builds, Cond.selects RX5 yX5_builds yX5_builds, Cond.code yX5_builds cX5_builds 3 none, Cond.fieldLink RX5 134 "PartSketchModel" "pockets" "I", Cond.fieldLink RX5 53 "PartSketchModel" "within" "[I", Cond.fieldLink RX5 44 "PartSketchModel" "corner" "[I", Cond.fieldLink RX5 47 "PartSketchModel" "against" "[I", Cond.fieldLink RX5 59 "PartSketchModel" "begins" "[I"]
def wsX5_setBase_r2 : List Cond := [Cond.fieldLink RX5 50 "PartSketchModel" "depth" "[I", Cond.methodLink RX5 110 yX5_solves, Cond.instanceMethod yX5_solves, Cond.selects RX5 yX5_solves yX5_solves, Cond.code yX5_solves cX5_solves 5 none, Cond.fieldLink RX5 38 "PartSketchModel" "group" "[I", Cond.fieldLink RX5 41 "PartSketchModel" "off" "[I", Cond.fieldLink RX5 85 "PartSketchModel" "wishes" "I", Cond.fieldLink RX5 19 "PartSketchModel" "one" "[I", Cond.fieldLink RX5 16 "PartSketchModel" "kind" "[I", Cond.fieldLink RX5 28 "PartSketchModel" "state" "[I", Cond.fieldLink RX5 22 "PartSketchModel" "other" "[I", Cond.fieldLink RX5 25 "PartSketchModel" "size" "[I", Cond.fieldLink RX5 7 "PartSketchModel" "hintX" "[I", Cond.fieldLink RX5 13 "PartSketchModel" "hintY" "[I", Cond.methodLink RX5 88 yX5_holds, Cond.instanceMethod yX5_holds, Cond.selects RX5 yX5_holds yX5_holds, Cond.code yX5_holds cX5_holds 7 (some .int), Cond.methodLink RX5 92 yX5_ties, Cond.instanceMethod yX5_ties, Cond.selects RX5 yX5_ties yX5_ties, Cond.code yX5_ties cX5_ties 10 none, Cond.methodLink RX5 127 yX5_sides]
def wsX5_setBase_r3 : List Cond := [Cond.instanceMethod yX5_sides, Cond.selects RX5 yX5_sides yX5_sides, Cond.code yX5_sides cX5_sides 8 none, Cond.fieldLink RX5 56 "PartSketchModel" "side" "[I", Cond.methodLink RX5 113 yX5_placeOf, Cond.instanceMethod yX5_placeOf, Cond.selects RX5 yX5_placeOf yX5_placeOf, Cond.code yX5_placeOf cX5_placeOf 7 (some .int), Cond.methodLink RX5 131 yX5_isFlat, Cond.instanceMethod yX5_isFlat, Cond.selects RX5 yX5_isFlat yX5_isFlat, Cond.code yX5_isFlat cX5_isFlat 2 (some .boolean), Cond.methodLink RX5 137 yX5_lies, Cond.instanceMethod yX5_lies, Cond.selects RX5 yX5_lies yX5_lies, Cond.code yX5_lies cX5_lies 3 (some .boolean)]
def wsX5_setBase : List Cond := .code yX5_setBase cX5_setBase 4 (some .boolean) :: ((wsX5_setBase_r1 ++ (wsX5_setBase_r2 ++ wsX5_setBase_r3)) ++ wsX50)
def wsX5_pocket : List Cond := .code yX5_pocket cX5_pocket 5 (some .int) :: ([.fieldLink RX5 74 "PartSketchModel" "thrown" "I", .fieldLink RX5 134 "PartSketchModel" "pockets" "I", .fieldLink RX5 117 "PartSketchModel" "isBase" "Z", .fieldLink RX5 44 "PartSketchModel" "corner" "[I", .fieldLink RX5 47 "PartSketchModel" "against" "[I", .fieldLink RX5 50 "PartSketchModel" "depth" "[I", .fieldLink RX5 53 "PartSketchModel" "within" "[I", .methodLink RX5 104 yX5_isPoint, .instanceMethod yX5_isPoint, .selects RX5 yX5_isPoint yX5_isPoint, .initialized RX5, .code yX5_isPoint cX5_isPoint 2 (some .boolean), .fieldLink RX5 82 "PartSketchModel" "points" "I", .methodLink RX5 78 yX5_in, .static yX5_in, .code yX5_in cX5_in 3 (some .boolean), .methodLink RX5 100 yX5_refuses, .instanceMethod yX5_refuses, .selects RX5 yX5_refuses yX5_refuses, .code yX5_refuses cX5_refuses 2 (some .int)] ++ wsX50)
def wsX5_fails_r1 : List Cond := [Cond.fieldLink RX5 134 "PartSketchModel" "pockets" "I", Cond.fieldLink RX5 74 "PartSketchModel" "thrown" "I", Cond.fieldLink RX5 62 "PartSketchModel" "failing" "[Z", Cond.methodLink RX5 78 yX5_in, Cond.static yX5_in, Cond.initialized RX5, Cond.code yX5_in cX5_in 3 (some .boolean), Cond.methodLink RX5 144 yX5_builds, Cond.instanceMethod yX5_builds, Cond.selects RX5 yX5_builds yX5_builds, Cond.code yX5_builds cX5_builds 3 none, Cond.fieldLink RX5 117 "PartSketchModel" "isBase" "Z", Cond.fieldLink RX5 121 "PartSketchModel" "baseOne" "I", Cond.fieldLink RX5 124 "PartSketchModel" "baseOther" "I", Cond.fieldLink RX5 53 "PartSketchModel" "within" "[I", Cond.fieldLink RX5 44 "PartSketchModel" "corner" "[I", Cond.fieldLink RX5 47 "PartSketchModel" "against" "[I", Cond.fieldLink RX5 59 "PartSketchModel" "begins" "[I", Cond.fieldLink RX5 50 "PartSketchModel" "depth" "[I", Cond.fieldLink RX5 141 "PartSketchModel" "height" "I", Cond.methodLink RX5 110 yX5_solves, Cond.instanceMethod yX5_solves, Cond.selects RX5 yX5_solves yX5_solves, Cond.code yX5_solves cX5_solves 5 none]
def wsX5_fails_r2 : List Cond := [Cond.fieldLink RX5 38 "PartSketchModel" "group" "[I", Cond.fieldLink RX5 41 "PartSketchModel" "off" "[I", Cond.fieldLink RX5 85 "PartSketchModel" "wishes" "I", Cond.fieldLink RX5 19 "PartSketchModel" "one" "[I", Cond.fieldLink RX5 16 "PartSketchModel" "kind" "[I", Cond.fieldLink RX5 28 "PartSketchModel" "state" "[I", Cond.fieldLink RX5 22 "PartSketchModel" "other" "[I", Cond.fieldLink RX5 25 "PartSketchModel" "size" "[I", Cond.fieldLink RX5 7 "PartSketchModel" "hintX" "[I", Cond.fieldLink RX5 13 "PartSketchModel" "hintY" "[I", Cond.methodLink RX5 88 yX5_holds, Cond.instanceMethod yX5_holds, Cond.selects RX5 yX5_holds yX5_holds, Cond.code yX5_holds cX5_holds 7 (some .int), Cond.methodLink RX5 92 yX5_ties, Cond.instanceMethod yX5_ties, Cond.selects RX5 yX5_ties yX5_ties, Cond.code yX5_ties cX5_ties 10 none, Cond.methodLink RX5 127 yX5_sides, Cond.instanceMethod yX5_sides, Cond.selects RX5 yX5_sides yX5_sides, Cond.code yX5_sides cX5_sides 8 none, Cond.fieldLink RX5 56 "PartSketchModel" "side" "[I", Cond.methodLink RX5 113 yX5_placeOf]
def wsX5_fails_r3 : List Cond := [Cond.instanceMethod yX5_placeOf, Cond.selects RX5 yX5_placeOf yX5_placeOf, Cond.code yX5_placeOf cX5_placeOf 7 (some .int), Cond.methodLink RX5 131 yX5_isFlat, Cond.instanceMethod yX5_isFlat, Cond.selects RX5 yX5_isFlat yX5_isFlat, Cond.code yX5_isFlat cX5_isFlat 2 (some .boolean), Cond.methodLink RX5 137 yX5_lies, Cond.instanceMethod yX5_lies, Cond.selects RX5 yX5_lies yX5_lies, Cond.code yX5_lies cX5_lies 3 (some .boolean)]
def wsX5_fails : List Cond := .code yX5_fails cX5_fails 2 (some .boolean) :: ((wsX5_fails_r1 ++ (wsX5_fails_r2 ++ wsX5_fails_r3)) ++ wsX50)
def wsX5_sorts : List Cond := .code yX5_sorts cX5_sorts 5 none :: ([])
def wsX5_isOut : List Cond := .code yX5_isOut cX5_isOut 7 (some .boolean) :: ([.fieldLink RX5 134 "PartSketchModel" "pockets" "I", .fieldLink RX5 56 "PartSketchModel" "side" "[I", .fieldLink RX5 62 "PartSketchModel" "failing" "[Z", .fieldLink RX5 59 "PartSketchModel" "begins" "[I", .fieldLink RX5 50 "PartSketchModel" "depth" "[I"] ++ wsX50)
def wsX5_out : List Cond := .code yX5_out cX5_out 7 (some .int) :: ([.fieldLink RX5 134 "PartSketchModel" "pockets" "I", .fieldLink RX5 62 "PartSketchModel" "failing" "[Z", .fieldLink RX5 65 "PartSketchModel" "cutX" "[I", .fieldLink RX5 56 "PartSketchModel" "side" "[I", .fieldLink RX5 68 "PartSketchModel" "cutY" "[I", .fieldLink RX5 71 "PartSketchModel" "cutZ" "[I", .fieldLink RX5 59 "PartSketchModel" "begins" "[I", .fieldLink RX5 50 "PartSketchModel" "depth" "[I", .methodLink RX5 147 yX5_sorts, .static yX5_sorts, .initialized RX5, .code yX5_sorts cX5_sorts 5 none, .methodLink RX5 151 yX5_isOut, .instanceMethod yX5_isOut, .selects RX5 yX5_isOut yX5_isOut, .code yX5_isOut cX5_isOut 7 (some .boolean)] ++ wsX50)
def wsX5_whole : List Cond := .code yX5_whole cX5_whole 1 (some .int) :: ([.fieldLink RX5 56 "PartSketchModel" "side" "[I", .fieldLink RX5 141 "PartSketchModel" "height" "I"] ++ wsX50)
def wsX5_volume_r1 : List Cond := [Cond.fieldLink RX5 74 "PartSketchModel" "thrown" "I", Cond.fieldLink RX5 62 "PartSketchModel" "failing" "[Z", Cond.methodLink RX5 144 yX5_builds, Cond.instanceMethod yX5_builds, Cond.selects RX5 yX5_builds yX5_builds, Cond.initialized RX5, Cond.code yX5_builds cX5_builds 3 none, Cond.fieldLink RX5 117 "PartSketchModel" "isBase" "Z", Cond.fieldLink RX5 121 "PartSketchModel" "baseOne" "I", Cond.fieldLink RX5 124 "PartSketchModel" "baseOther" "I", Cond.fieldLink RX5 134 "PartSketchModel" "pockets" "I", Cond.fieldLink RX5 53 "PartSketchModel" "within" "[I", Cond.fieldLink RX5 44 "PartSketchModel" "corner" "[I", Cond.fieldLink RX5 47 "PartSketchModel" "against" "[I", Cond.fieldLink RX5 59 "PartSketchModel" "begins" "[I", Cond.fieldLink RX5 50 "PartSketchModel" "depth" "[I", Cond.fieldLink RX5 141 "PartSketchModel" "height" "I", Cond.methodLink RX5 110 yX5_solves, Cond.instanceMethod yX5_solves, Cond.selects RX5 yX5_solves yX5_solves, Cond.code yX5_solves cX5_solves 5 none, Cond.fieldLink RX5 38 "PartSketchModel" "group" "[I", Cond.fieldLink RX5 41 "PartSketchModel" "off" "[I", Cond.fieldLink RX5 85 "PartSketchModel" "wishes" "I"]
def wsX5_volume_r2 : List Cond := [Cond.fieldLink RX5 19 "PartSketchModel" "one" "[I", Cond.fieldLink RX5 16 "PartSketchModel" "kind" "[I", Cond.fieldLink RX5 28 "PartSketchModel" "state" "[I", Cond.fieldLink RX5 22 "PartSketchModel" "other" "[I", Cond.fieldLink RX5 25 "PartSketchModel" "size" "[I", Cond.fieldLink RX5 7 "PartSketchModel" "hintX" "[I", Cond.fieldLink RX5 13 "PartSketchModel" "hintY" "[I", Cond.methodLink RX5 88 yX5_holds, Cond.instanceMethod yX5_holds, Cond.selects RX5 yX5_holds yX5_holds, Cond.code yX5_holds cX5_holds 7 (some .int), Cond.methodLink RX5 92 yX5_ties, Cond.instanceMethod yX5_ties, Cond.selects RX5 yX5_ties yX5_ties, Cond.code yX5_ties cX5_ties 10 none, Cond.methodLink RX5 127 yX5_sides, Cond.instanceMethod yX5_sides, Cond.selects RX5 yX5_sides yX5_sides, Cond.code yX5_sides cX5_sides 8 none, Cond.fieldLink RX5 56 "PartSketchModel" "side" "[I", Cond.methodLink RX5 113 yX5_placeOf, Cond.instanceMethod yX5_placeOf, Cond.selects RX5 yX5_placeOf yX5_placeOf, Cond.code yX5_placeOf cX5_placeOf 7 (some .int)]
def wsX5_volume_r3 : List Cond := [Cond.methodLink RX5 131 yX5_isFlat, Cond.instanceMethod yX5_isFlat, Cond.selects RX5 yX5_isFlat yX5_isFlat, Cond.code yX5_isFlat cX5_isFlat 2 (some .boolean), Cond.methodLink RX5 137 yX5_lies, Cond.instanceMethod yX5_lies, Cond.selects RX5 yX5_lies yX5_lies, Cond.code yX5_lies cX5_lies 3 (some .boolean), Cond.methodLink RX5 154 yX5_whole, Cond.instanceMethod yX5_whole, Cond.selects RX5 yX5_whole yX5_whole, Cond.code yX5_whole cX5_whole 1 (some .int), Cond.methodLink RX5 158 yX5_out, Cond.instanceMethod yX5_out, Cond.selects RX5 yX5_out yX5_out, Cond.code yX5_out cX5_out 7 (some .int), Cond.fieldLink RX5 65 "PartSketchModel" "cutX" "[I", Cond.fieldLink RX5 68 "PartSketchModel" "cutY" "[I", Cond.fieldLink RX5 71 "PartSketchModel" "cutZ" "[I", Cond.methodLink RX5 147 yX5_sorts, Cond.static yX5_sorts, Cond.code yX5_sorts cX5_sorts 5 none, Cond.methodLink RX5 151 yX5_isOut, Cond.instanceMethod yX5_isOut]
def wsX5_volume_r4 : List Cond := [Cond.selects RX5 yX5_isOut yX5_isOut, Cond.code yX5_isOut cX5_isOut 7 (some .boolean)]
def wsX5_volume : List Cond := .code yX5_volume cX5_volume 1 (some .int) :: ((wsX5_volume_r1 ++ (wsX5_volume_r2 ++ (wsX5_volume_r3 ++ wsX5_volume_r4))) ++ wsX50)
def wsX5_price_r1 : List Cond := [Cond.fieldLink RX5 74 "PartSketchModel" "thrown" "I", Cond.fieldLink RX5 62 "PartSketchModel" "failing" "[Z", Cond.fieldLink RX5 134 "PartSketchModel" "pockets" "I", Cond.fieldLink RX5 50 "PartSketchModel" "depth" "[I", Cond.methodLink RX5 144 yX5_builds, Cond.instanceMethod yX5_builds, Cond.selects RX5 yX5_builds yX5_builds, Cond.initialized RX5, Cond.code yX5_builds cX5_builds 3 none, Cond.fieldLink RX5 117 "PartSketchModel" "isBase" "Z", Cond.fieldLink RX5 121 "PartSketchModel" "baseOne" "I", Cond.fieldLink RX5 124 "PartSketchModel" "baseOther" "I", Cond.fieldLink RX5 53 "PartSketchModel" "within" "[I", Cond.fieldLink RX5 44 "PartSketchModel" "corner" "[I", Cond.fieldLink RX5 47 "PartSketchModel" "against" "[I", Cond.fieldLink RX5 59 "PartSketchModel" "begins" "[I", Cond.fieldLink RX5 141 "PartSketchModel" "height" "I", Cond.methodLink RX5 110 yX5_solves, Cond.instanceMethod yX5_solves, Cond.selects RX5 yX5_solves yX5_solves, Cond.code yX5_solves cX5_solves 5 none, Cond.fieldLink RX5 38 "PartSketchModel" "group" "[I", Cond.fieldLink RX5 41 "PartSketchModel" "off" "[I", Cond.fieldLink RX5 85 "PartSketchModel" "wishes" "I"]
def wsX5_price_r2 : List Cond := [Cond.fieldLink RX5 19 "PartSketchModel" "one" "[I", Cond.fieldLink RX5 16 "PartSketchModel" "kind" "[I", Cond.fieldLink RX5 28 "PartSketchModel" "state" "[I", Cond.fieldLink RX5 22 "PartSketchModel" "other" "[I", Cond.fieldLink RX5 25 "PartSketchModel" "size" "[I", Cond.fieldLink RX5 7 "PartSketchModel" "hintX" "[I", Cond.fieldLink RX5 13 "PartSketchModel" "hintY" "[I", Cond.methodLink RX5 88 yX5_holds, Cond.instanceMethod yX5_holds, Cond.selects RX5 yX5_holds yX5_holds, Cond.code yX5_holds cX5_holds 7 (some .int), Cond.methodLink RX5 92 yX5_ties, Cond.instanceMethod yX5_ties, Cond.selects RX5 yX5_ties yX5_ties, Cond.code yX5_ties cX5_ties 10 none, Cond.methodLink RX5 127 yX5_sides, Cond.instanceMethod yX5_sides, Cond.selects RX5 yX5_sides yX5_sides, Cond.code yX5_sides cX5_sides 8 none, Cond.fieldLink RX5 56 "PartSketchModel" "side" "[I", Cond.methodLink RX5 113 yX5_placeOf, Cond.instanceMethod yX5_placeOf, Cond.selects RX5 yX5_placeOf yX5_placeOf, Cond.code yX5_placeOf cX5_placeOf 7 (some .int)]
def wsX5_price_r3 : List Cond := [Cond.methodLink RX5 131 yX5_isFlat, Cond.instanceMethod yX5_isFlat, Cond.selects RX5 yX5_isFlat yX5_isFlat, Cond.code yX5_isFlat cX5_isFlat 2 (some .boolean), Cond.methodLink RX5 137 yX5_lies, Cond.instanceMethod yX5_lies, Cond.selects RX5 yX5_lies yX5_lies, Cond.code yX5_lies cX5_lies 3 (some .boolean), Cond.methodLink RX5 154 yX5_whole, Cond.instanceMethod yX5_whole, Cond.selects RX5 yX5_whole yX5_whole, Cond.code yX5_whole cX5_whole 1 (some .int), Cond.methodLink RX5 158 yX5_out, Cond.instanceMethod yX5_out, Cond.selects RX5 yX5_out yX5_out, Cond.code yX5_out cX5_out 7 (some .int), Cond.fieldLink RX5 65 "PartSketchModel" "cutX" "[I", Cond.fieldLink RX5 68 "PartSketchModel" "cutY" "[I", Cond.fieldLink RX5 71 "PartSketchModel" "cutZ" "[I", Cond.methodLink RX5 147 yX5_sorts, Cond.static yX5_sorts, Cond.code yX5_sorts cX5_sorts 5 none, Cond.methodLink RX5 151 yX5_isOut, Cond.instanceMethod yX5_isOut]
def wsX5_price_r4 : List Cond := [Cond.selects RX5 yX5_isOut yX5_isOut, Cond.code yX5_isOut cX5_isOut 7 (some .boolean)]
def wsX5_price : List Cond := .code yX5_price cX5_price 5 (some .int) :: ((wsX5_price_r1 ++ (wsX5_price_r2 ++ (wsX5_price_r3 ++ wsX5_price_r4))) ++ wsX50)
def wsJ9_max_7cf53 : List Cond := .code yJ9_max_7cf53 cJ9_max_7cf53 2 (some .int) :: ([])
def wsJ9_min_7cf53 : List Cond := .code yJ9_min_7cf53 cJ9_min_7cf53 2 (some .int) :: ([])
def wsL_point : List Cond := .codeWith yL_point cL_point 5 (some .int) [(0, 10, 13, 13), (0, 10, 17, 15)] :: ([.classLink RL 13 "java/lang/IllegalArgumentException", .classLink RL 15 "java/lang/IllegalStateException", .methodLink RL 7 yX4_point, .instanceMethod yX4_point, .selects RX4 yX4_point yX4_point, .initialized RX4, .code yX4_point cX4_point 4 (some .int), .classLink RX4 41 "java/lang/IllegalStateException", .initialized "java/lang/IllegalStateException", .fieldLink RX4 37 "PartSketch" "points" "I", .methodLink RX4 33 yX4_requireReach, .static yX4_requireReach, .code yX4_requireReach cX4_requireReach 1 none, .classLink RX4 55 "java/lang/IllegalArgumentException", .initialized "java/lang/IllegalArgumentException", .methodLink RX4 48 yX4_moveHint, .instanceMethod yX4_moveHint, .selects RX4 yX4_moveHint yX4_moveHint, .code yX4_moveHint cX4_moveHint 4 none, .fieldLink RX4 12 "PartSketch" "xAxis" "LPartSketch$Axis;", .fieldLink RX4 182 "PartSketch$Axis" "hint" "[I", .fieldLink RX4 16 "PartSketch" "yAxis" "LPartSketch$Axis;", .fieldLink RX4 67 "PartSketch" "settled" "Z"] ++ wsX40 ++ wsX00 ++ (vx_atS RX4 45 "java/lang/IllegalStateException" ["java/lang/RuntimeException", "java/lang/Exception"]).filter goodWord ++ (vx_atS RX4 59 "java/lang/IllegalArgumentException" ["java/lang/RuntimeException", "java/lang/Exception"]).filter goodWord)
def wsL_hint_r1 : List Cond := [Cond.classLink RL 21 "java/lang/IndexOutOfBoundsException", Cond.classLink RL 13 "java/lang/IllegalArgumentException", Cond.methodLink RL 17 yX4_hint, Cond.instanceMethod yX4_hint, Cond.selects RX4 yX4_hint yX4_hint, Cond.initialized RX4, Cond.code yX4_hint cX4_hint 4 none, Cond.methodLink RX4 52 yX4_requirePoint, Cond.instanceMethod yX4_requirePoint, Cond.selects RX4 yX4_requirePoint yX4_requirePoint, Cond.code yX4_requirePoint cX4_requirePoint 2 none, Cond.classLink RX4 168 "java/lang/IndexOutOfBoundsException", Cond.initialized "java/lang/IndexOutOfBoundsException", Cond.fieldLink RX4 37 "PartSketch" "points" "I", Cond.methodLink RX4 33 yX4_requireReach, Cond.static yX4_requireReach, Cond.code yX4_requireReach cX4_requireReach 1 none, Cond.classLink RX4 55 "java/lang/IllegalArgumentException", Cond.initialized "java/lang/IllegalArgumentException", Cond.methodLink RX4 48 yX4_moveHint, Cond.instanceMethod yX4_moveHint, Cond.selects RX4 yX4_moveHint yX4_moveHint, Cond.code yX4_moveHint cX4_moveHint 4 none, Cond.fieldLink RX4 12 "PartSketch" "xAxis" "LPartSketch$Axis;"]
def wsL_hint_r2 : List Cond := [Cond.fieldLink RX4 182 "PartSketch$Axis" "hint" "[I", Cond.fieldLink RX4 16 "PartSketch" "yAxis" "LPartSketch$Axis;", Cond.fieldLink RX4 67 "PartSketch" "settled" "Z"]
def wsL_hint : List Cond := .codeWith yL_hint cL_hint 5 (some .int) [(0, 7, 10, 21), (0, 7, 14, 13)] :: ((wsL_hint_r1 ++ wsL_hint_r2) ++ wsX40 ++ wsX00 ++ (vx_atS RX4 172 "java/lang/IndexOutOfBoundsException" ["java/lang/RuntimeException", "java/lang/Exception"]).filter goodWord ++ (vx_atS RX4 59 "java/lang/IllegalArgumentException" ["java/lang/RuntimeException", "java/lang/Exception"]).filter goodWord)
def wsL_wish_r1 : List Cond := [Cond.classLink RL 13 "java/lang/IllegalArgumentException", Cond.classLink RL 21 "java/lang/IndexOutOfBoundsException", Cond.classLink RL 15 "java/lang/IllegalStateException", Cond.methodLink RL 23 yX4_wish, Cond.instanceMethod yX4_wish, Cond.selects RX4 yX4_wish yX4_wish, Cond.initialized RX4, Cond.code yX4_wish cX4_wish 5 (some .int), Cond.classLink RX4 55 "java/lang/IllegalArgumentException", Cond.initialized "java/lang/IllegalArgumentException", Cond.classLink RX4 41 "java/lang/IllegalStateException", Cond.initialized "java/lang/IllegalStateException", Cond.fieldLink RX4 22 "PartSketch" "rows" "LPartSketch$WishRows;", Cond.fieldLink RX4 62 "PartSketch$WishRows" "count" "I", Cond.fieldLink RX4 67 "PartSketch" "settled" "Z", Cond.methodLink RX4 33 yX4_requireReach, Cond.static yX4_requireReach, Cond.code yX4_requireReach cX4_requireReach 1 none, Cond.methodLink RX4 52 yX4_requirePoint, Cond.instanceMethod yX4_requirePoint, Cond.selects RX4 yX4_requirePoint yX4_requirePoint, Cond.code yX4_requirePoint cX4_requirePoint 2 none, Cond.classLink RX4 168 "java/lang/IndexOutOfBoundsException", Cond.initialized "java/lang/IndexOutOfBoundsException"]
def wsL_wish_r2 : List Cond := [Cond.fieldLink RX4 37 "PartSketch" "points" "I", Cond.methodLink RX4 71 yX3_append, Cond.instanceMethod yX3_append, Cond.selects RX3 yX3_append yX3_append, Cond.initialized RX3, Cond.code yX3_append cX3_append 7 (some .int), Cond.fieldLink RX3 32 "PartSketch$WishRows" "count" "I", Cond.fieldLink RX3 9 "PartSketch$WishRows" "kind" "[I", Cond.fieldLink RX3 15 "PartSketch$WishRows" "one" "[I", Cond.fieldLink RX3 18 "PartSketch$WishRows" "other" "[I", Cond.fieldLink RX3 21 "PartSketch$WishRows" "size" "[I", Cond.fieldLink RX3 29 "PartSketch$WishRows" "told" "[[I"]
def wsL_wish : List Cond := .codeWith yL_wish cL_wish 7 (some .int) [(0, 14, 17, 13), (0, 14, 21, 21), (0, 14, 25, 15)] :: ((wsL_wish_r1 ++ wsL_wish_r2) ++ wsX40 ++ wsX30 ++ (vx_atS RX4 59 "java/lang/IllegalArgumentException" ["java/lang/RuntimeException", "java/lang/Exception"]).filter goodWord ++ (vx_atS RX4 45 "java/lang/IllegalStateException" ["java/lang/RuntimeException", "java/lang/Exception"]).filter goodWord ++ (vx_atS RX4 172 "java/lang/IndexOutOfBoundsException" ["java/lang/RuntimeException", "java/lang/Exception"]).filter goodWord)
def wsL_remove_r1 : List Cond := [Cond.classLink RL 21 "java/lang/IndexOutOfBoundsException", Cond.methodLink RL 27 yX4_remove, Cond.instanceMethod yX4_remove, Cond.selects RX4 yX4_remove yX4_remove, Cond.initialized RX4, Cond.code yX4_remove cX4_remove 3 (some .int), Cond.fieldLink RX4 22 "PartSketch" "rows" "LPartSketch$WishRows;", Cond.fieldLink RX4 81 "PartSketch$WishRows" "state" "[I", Cond.fieldLink RX4 67 "PartSketch" "settled" "Z", Cond.methodLink RX4 75 yX4_requireWish, Cond.instanceMethod yX4_requireWish, Cond.selects RX4 yX4_requireWish yX4_requireWish, Cond.code yX4_requireWish cX4_requireWish 2 none, Cond.classLink RX4 168 "java/lang/IndexOutOfBoundsException", Cond.initialized "java/lang/IndexOutOfBoundsException", Cond.fieldLink RX4 62 "PartSketch$WishRows" "count" "I", Cond.methodLink RX4 78 yX4_settle, Cond.instanceMethod yX4_settle, Cond.selects RX4 yX4_settle yX4_settle, Cond.code yX4_settle cX4_settle 2 none, Cond.fieldLink RX4 12 "PartSketch" "xAxis" "LPartSketch$Axis;", Cond.fieldLink RX4 16 "PartSketch" "yAxis" "LPartSketch$Axis;", Cond.fieldLink RX4 37 "PartSketch" "points" "I", Cond.methodLink RX4 188 yX0_loosen]
def wsL_remove_r2 : List Cond := [Cond.instanceMethod yX0_loosen, Cond.selects RX0 yX0_loosen yX0_loosen, Cond.initialized RX0, Cond.code yX0_loosen cX0_loosen 2 none, Cond.fieldLink RX0 15 "PartSketch$Axis" "group" "[I", Cond.fieldLink RX0 18 "PartSketch$Axis" "place" "[I", Cond.methodLink RX4 191 yX4_admit, Cond.instanceMethod yX4_admit, Cond.selects RX4 yX4_admit yX4_admit, Cond.code yX4_admit cX4_admit 5 (some .int), Cond.fieldLink RX4 197 "PartSketch$WishRows" "one" "[I", Cond.fieldLink RX4 200 "PartSketch$WishRows" "other" "[I", Cond.fieldLink RX4 91 "PartSketch$WishRows" "size" "[I", Cond.fieldLink RX4 175 "PartSketch$WishRows" "kind" "[I", Cond.methodLink RX4 203 yX4_admitApart, Cond.static yX4_admitApart, Cond.code yX4_admitApart cX4_admitApart 5 (some .int), Cond.methodLink RX4 210 yX0_judge, Cond.instanceMethod yX0_judge, Cond.selects RX0 yX0_judge yX0_judge, Cond.code yX0_judge cX0_judge 4 (some .int), Cond.methodLink RX4 214 yX0_join, Cond.instanceMethod yX0_join, Cond.selects RX0 yX0_join yX0_join]
def wsL_remove_r3 : List Cond := [Cond.code yX0_join cX0_join 8 none, Cond.methodLink RX4 207 yX4_admitAtHint, Cond.instanceMethod yX4_admitAtHint, Cond.selects RX4 yX4_admitAtHint yX4_admitAtHint, Cond.code yX4_admitAtHint cX4_admitAtHint 4 (some .int), Cond.fieldLink RX4 182 "PartSketch$Axis" "hint" "[I", Cond.methodLink RX4 194 yX0_pinFreeGroups, Cond.instanceMethod yX0_pinFreeGroups, Cond.selects RX0 yX0_pinFreeGroups yX0_pinFreeGroups, Cond.code yX0_pinFreeGroups cX0_pinFreeGroups 3 none, Cond.fieldLink RX0 21 "PartSketch$Axis" "freeGroups" "I", Cond.fieldLink RX0 9 "PartSketch$Axis" "hint" "[I", Cond.methodLink RX0 25 yX0_join, Cond.methodLink RX4 85 yX3_drop, Cond.instanceMethod yX3_drop, Cond.selects RX3 yX3_drop yX3_drop, Cond.initialized RX3, Cond.code yX3_drop cX3_drop 3 none, Cond.fieldLink RX3 9 "PartSketch$WishRows" "kind" "[I", Cond.fieldLink RX3 15 "PartSketch$WishRows" "one" "[I", Cond.fieldLink RX3 18 "PartSketch$WishRows" "other" "[I", Cond.fieldLink RX3 21 "PartSketch$WishRows" "size" "[I", Cond.fieldLink RX3 29 "PartSketch$WishRows" "told" "[[I", Cond.fieldLink RX3 32 "PartSketch$WishRows" "count" "I"]
def wsL_remove_r4 : List Cond := [Cond.methodLink RX3 36 yX3_closeGap, Cond.instanceMethod yX3_closeGap, Cond.selects RX3 yX3_closeGap yX3_closeGap, Cond.code yX3_closeGap cX3_closeGap 3 none, Cond.methodLink RX3 40 arraycopyName, Cond.native arraycopyName, Cond.static arraycopyName, Cond.initialized "java/lang/System"]
def wsL_remove : List Cond := .codeWith yL_remove cL_remove 4 (some .int) [(0, 9, 12, 21)] :: ((wsL_remove_r1 ++ (wsL_remove_r2 ++ (wsL_remove_r3 ++ wsL_remove_r4))) ++ wsX40 ++ wsX30 ++ wsX00 ++ (vx_atS RX4 172 "java/lang/IndexOutOfBoundsException" ["java/lang/RuntimeException", "java/lang/Exception"]).filter goodWord)
def wsL_type_r1 : List Cond := [Cond.classLink RL 21 "java/lang/IndexOutOfBoundsException", Cond.classLink RL 15 "java/lang/IllegalStateException", Cond.classLink RL 13 "java/lang/IllegalArgumentException", Cond.methodLink RL 31 yX4_type, Cond.instanceMethod yX4_type, Cond.selects RX4 yX4_type yX4_type, Cond.initialized RX4, Cond.code yX4_type cX4_type 4 (some .int), Cond.fieldLink RX4 22 "PartSketch" "rows" "LPartSketch$WishRows;", Cond.fieldLink RX4 91 "PartSketch$WishRows" "size" "[I", Cond.fieldLink RX4 67 "PartSketch" "settled" "Z", Cond.methodLink RX4 75 yX4_requireWish, Cond.instanceMethod yX4_requireWish, Cond.selects RX4 yX4_requireWish yX4_requireWish, Cond.code yX4_requireWish cX4_requireWish 2 none, Cond.classLink RX4 168 "java/lang/IndexOutOfBoundsException", Cond.initialized "java/lang/IndexOutOfBoundsException", Cond.fieldLink RX4 62 "PartSketch$WishRows" "count" "I", Cond.methodLink RX4 88 yX4_requireSized, Cond.instanceMethod yX4_requireSized, Cond.selects RX4 yX4_requireSized yX4_requireSized, Cond.code yX4_requireSized cX4_requireSized 2 none, Cond.classLink RX4 41 "java/lang/IllegalStateException", Cond.initialized "java/lang/IllegalStateException"]
def wsL_type_r2 : List Cond := [Cond.fieldLink RX4 175 "PartSketch$WishRows" "kind" "[I", Cond.methodLink RX4 33 yX4_requireReach, Cond.static yX4_requireReach, Cond.code yX4_requireReach cX4_requireReach 1 none, Cond.classLink RX4 55 "java/lang/IllegalArgumentException", Cond.initialized "java/lang/IllegalArgumentException"]
def wsL_type : List Cond := .codeWith yL_type cL_type 5 (some .int) [(0, 10, 13, 21), (0, 10, 17, 15), (0, 10, 21, 13)] :: ((wsL_type_r1 ++ wsL_type_r2) ++ wsX40 ++ wsX30 ++ (vx_atS RX4 172 "java/lang/IndexOutOfBoundsException" ["java/lang/RuntimeException", "java/lang/Exception"]).filter goodWord ++ (vx_atS RX4 45 "java/lang/IllegalStateException" ["java/lang/RuntimeException", "java/lang/Exception"]).filter goodWord ++ (vx_atS RX4 59 "java/lang/IllegalArgumentException" ["java/lang/RuntimeException", "java/lang/Exception"]).filter goodWord)
def wsL_state_r1 : List Cond := [Cond.classLink RL 21 "java/lang/IndexOutOfBoundsException", Cond.methodLink RL 34 yX4_state, Cond.instanceMethod yX4_state, Cond.selects RX4 yX4_state yX4_state, Cond.initialized RX4, Cond.code yX4_state cX4_state 2 (some .int), Cond.fieldLink RX4 22 "PartSketch" "rows" "LPartSketch$WishRows;", Cond.fieldLink RX4 81 "PartSketch$WishRows" "state" "[I", Cond.methodLink RX4 75 yX4_requireWish, Cond.instanceMethod yX4_requireWish, Cond.selects RX4 yX4_requireWish yX4_requireWish, Cond.code yX4_requireWish cX4_requireWish 2 none, Cond.classLink RX4 168 "java/lang/IndexOutOfBoundsException", Cond.initialized "java/lang/IndexOutOfBoundsException", Cond.fieldLink RX4 62 "PartSketch$WishRows" "count" "I", Cond.methodLink RX4 78 yX4_settle, Cond.instanceMethod yX4_settle, Cond.selects RX4 yX4_settle yX4_settle, Cond.code yX4_settle cX4_settle 2 none, Cond.fieldLink RX4 67 "PartSketch" "settled" "Z", Cond.fieldLink RX4 12 "PartSketch" "xAxis" "LPartSketch$Axis;", Cond.fieldLink RX4 16 "PartSketch" "yAxis" "LPartSketch$Axis;", Cond.fieldLink RX4 37 "PartSketch" "points" "I", Cond.methodLink RX4 188 yX0_loosen]
def wsL_state_r2 : List Cond := [Cond.instanceMethod yX0_loosen, Cond.selects RX0 yX0_loosen yX0_loosen, Cond.initialized RX0, Cond.code yX0_loosen cX0_loosen 2 none, Cond.fieldLink RX0 15 "PartSketch$Axis" "group" "[I", Cond.fieldLink RX0 18 "PartSketch$Axis" "place" "[I", Cond.methodLink RX4 191 yX4_admit, Cond.instanceMethod yX4_admit, Cond.selects RX4 yX4_admit yX4_admit, Cond.code yX4_admit cX4_admit 5 (some .int), Cond.fieldLink RX4 197 "PartSketch$WishRows" "one" "[I", Cond.fieldLink RX4 200 "PartSketch$WishRows" "other" "[I", Cond.fieldLink RX4 91 "PartSketch$WishRows" "size" "[I", Cond.fieldLink RX4 175 "PartSketch$WishRows" "kind" "[I", Cond.methodLink RX4 203 yX4_admitApart, Cond.static yX4_admitApart, Cond.code yX4_admitApart cX4_admitApart 5 (some .int), Cond.methodLink RX4 210 yX0_judge, Cond.instanceMethod yX0_judge, Cond.selects RX0 yX0_judge yX0_judge, Cond.code yX0_judge cX0_judge 4 (some .int), Cond.methodLink RX4 214 yX0_join, Cond.instanceMethod yX0_join, Cond.selects RX0 yX0_join yX0_join]
def wsL_state_r3 : List Cond := [Cond.code yX0_join cX0_join 8 none, Cond.methodLink RX4 207 yX4_admitAtHint, Cond.instanceMethod yX4_admitAtHint, Cond.selects RX4 yX4_admitAtHint yX4_admitAtHint, Cond.code yX4_admitAtHint cX4_admitAtHint 4 (some .int), Cond.fieldLink RX4 182 "PartSketch$Axis" "hint" "[I", Cond.methodLink RX4 194 yX0_pinFreeGroups, Cond.instanceMethod yX0_pinFreeGroups, Cond.selects RX0 yX0_pinFreeGroups yX0_pinFreeGroups, Cond.code yX0_pinFreeGroups cX0_pinFreeGroups 3 none, Cond.fieldLink RX0 21 "PartSketch$Axis" "freeGroups" "I", Cond.fieldLink RX0 9 "PartSketch$Axis" "hint" "[I", Cond.methodLink RX0 25 yX0_join]
def wsL_state : List Cond := .codeWith yL_state cL_state 4 (some .int) [(0, 9, 12, 21)] :: ((wsL_state_r1 ++ (wsL_state_r2 ++ wsL_state_r3)) ++ wsX40 ++ wsX30 ++ wsX00 ++ (vx_atS RX4 172 "java/lang/IndexOutOfBoundsException" ["java/lang/RuntimeException", "java/lang/Exception"]).filter goodWord)
def wsL_x_r1 : List Cond := [Cond.classLink RL 21 "java/lang/IndexOutOfBoundsException", Cond.methodLink RL 37 yX4_x, Cond.instanceMethod yX4_x, Cond.selects RX4 yX4_x yX4_x, Cond.initialized RX4, Cond.code yX4_x cX4_x 2 (some .int), Cond.fieldLink RX4 12 "PartSketch" "xAxis" "LPartSketch$Axis;", Cond.methodLink RX4 52 yX4_requirePoint, Cond.instanceMethod yX4_requirePoint, Cond.selects RX4 yX4_requirePoint yX4_requirePoint, Cond.code yX4_requirePoint cX4_requirePoint 2 none, Cond.classLink RX4 168 "java/lang/IndexOutOfBoundsException", Cond.initialized "java/lang/IndexOutOfBoundsException", Cond.fieldLink RX4 37 "PartSketch" "points" "I", Cond.methodLink RX4 78 yX4_settle, Cond.instanceMethod yX4_settle, Cond.selects RX4 yX4_settle yX4_settle, Cond.code yX4_settle cX4_settle 2 none, Cond.fieldLink RX4 67 "PartSketch" "settled" "Z", Cond.fieldLink RX4 16 "PartSketch" "yAxis" "LPartSketch$Axis;", Cond.fieldLink RX4 22 "PartSketch" "rows" "LPartSketch$WishRows;", Cond.fieldLink RX4 62 "PartSketch$WishRows" "count" "I", Cond.fieldLink RX4 81 "PartSketch$WishRows" "state" "[I", Cond.methodLink RX4 188 yX0_loosen]
def wsL_x_r2 : List Cond := [Cond.instanceMethod yX0_loosen, Cond.selects RX0 yX0_loosen yX0_loosen, Cond.initialized RX0, Cond.code yX0_loosen cX0_loosen 2 none, Cond.fieldLink RX0 15 "PartSketch$Axis" "group" "[I", Cond.fieldLink RX0 18 "PartSketch$Axis" "place" "[I", Cond.methodLink RX4 191 yX4_admit, Cond.instanceMethod yX4_admit, Cond.selects RX4 yX4_admit yX4_admit, Cond.code yX4_admit cX4_admit 5 (some .int), Cond.fieldLink RX4 197 "PartSketch$WishRows" "one" "[I", Cond.fieldLink RX4 200 "PartSketch$WishRows" "other" "[I", Cond.fieldLink RX4 91 "PartSketch$WishRows" "size" "[I", Cond.fieldLink RX4 175 "PartSketch$WishRows" "kind" "[I", Cond.methodLink RX4 203 yX4_admitApart, Cond.static yX4_admitApart, Cond.code yX4_admitApart cX4_admitApart 5 (some .int), Cond.methodLink RX4 210 yX0_judge, Cond.instanceMethod yX0_judge, Cond.selects RX0 yX0_judge yX0_judge, Cond.code yX0_judge cX0_judge 4 (some .int), Cond.methodLink RX4 214 yX0_join, Cond.instanceMethod yX0_join, Cond.selects RX0 yX0_join yX0_join]
def wsL_x_r3 : List Cond := [Cond.code yX0_join cX0_join 8 none, Cond.methodLink RX4 207 yX4_admitAtHint, Cond.instanceMethod yX4_admitAtHint, Cond.selects RX4 yX4_admitAtHint yX4_admitAtHint, Cond.code yX4_admitAtHint cX4_admitAtHint 4 (some .int), Cond.fieldLink RX4 182 "PartSketch$Axis" "hint" "[I", Cond.methodLink RX4 194 yX0_pinFreeGroups, Cond.instanceMethod yX0_pinFreeGroups, Cond.selects RX0 yX0_pinFreeGroups yX0_pinFreeGroups, Cond.code yX0_pinFreeGroups cX0_pinFreeGroups 3 none, Cond.fieldLink RX0 21 "PartSketch$Axis" "freeGroups" "I", Cond.fieldLink RX0 9 "PartSketch$Axis" "hint" "[I", Cond.methodLink RX0 25 yX0_join, Cond.methodLink RX4 97 yX0_placeOf, Cond.instanceMethod yX0_placeOf, Cond.selects RX0 yX0_placeOf yX0_placeOf, Cond.code yX0_placeOf cX0_placeOf 2 (some .int)]
def wsL_x : List Cond := .codeWith yL_x cL_x 4 (some .int) [(0, 9, 12, 21)] :: ((wsL_x_r1 ++ (wsL_x_r2 ++ wsL_x_r3)) ++ wsX40 ++ wsX30 ++ wsX00 ++ (vx_atS RX4 172 "java/lang/IndexOutOfBoundsException" ["java/lang/RuntimeException", "java/lang/Exception"]).filter goodWord)
def wsL_y_r1 : List Cond := [Cond.classLink RL 21 "java/lang/IndexOutOfBoundsException", Cond.methodLink RL 40 yX4_y, Cond.instanceMethod yX4_y, Cond.selects RX4 yX4_y yX4_y, Cond.initialized RX4, Cond.code yX4_y cX4_y 2 (some .int), Cond.fieldLink RX4 16 "PartSketch" "yAxis" "LPartSketch$Axis;", Cond.methodLink RX4 52 yX4_requirePoint, Cond.instanceMethod yX4_requirePoint, Cond.selects RX4 yX4_requirePoint yX4_requirePoint, Cond.code yX4_requirePoint cX4_requirePoint 2 none, Cond.classLink RX4 168 "java/lang/IndexOutOfBoundsException", Cond.initialized "java/lang/IndexOutOfBoundsException", Cond.fieldLink RX4 37 "PartSketch" "points" "I", Cond.methodLink RX4 78 yX4_settle, Cond.instanceMethod yX4_settle, Cond.selects RX4 yX4_settle yX4_settle, Cond.code yX4_settle cX4_settle 2 none, Cond.fieldLink RX4 67 "PartSketch" "settled" "Z", Cond.fieldLink RX4 12 "PartSketch" "xAxis" "LPartSketch$Axis;", Cond.fieldLink RX4 22 "PartSketch" "rows" "LPartSketch$WishRows;", Cond.fieldLink RX4 62 "PartSketch$WishRows" "count" "I", Cond.fieldLink RX4 81 "PartSketch$WishRows" "state" "[I", Cond.methodLink RX4 188 yX0_loosen]
def wsL_y_r2 : List Cond := [Cond.instanceMethod yX0_loosen, Cond.selects RX0 yX0_loosen yX0_loosen, Cond.initialized RX0, Cond.code yX0_loosen cX0_loosen 2 none, Cond.fieldLink RX0 15 "PartSketch$Axis" "group" "[I", Cond.fieldLink RX0 18 "PartSketch$Axis" "place" "[I", Cond.methodLink RX4 191 yX4_admit, Cond.instanceMethod yX4_admit, Cond.selects RX4 yX4_admit yX4_admit, Cond.code yX4_admit cX4_admit 5 (some .int), Cond.fieldLink RX4 197 "PartSketch$WishRows" "one" "[I", Cond.fieldLink RX4 200 "PartSketch$WishRows" "other" "[I", Cond.fieldLink RX4 91 "PartSketch$WishRows" "size" "[I", Cond.fieldLink RX4 175 "PartSketch$WishRows" "kind" "[I", Cond.methodLink RX4 203 yX4_admitApart, Cond.static yX4_admitApart, Cond.code yX4_admitApart cX4_admitApart 5 (some .int), Cond.methodLink RX4 210 yX0_judge, Cond.instanceMethod yX0_judge, Cond.selects RX0 yX0_judge yX0_judge, Cond.code yX0_judge cX0_judge 4 (some .int), Cond.methodLink RX4 214 yX0_join, Cond.instanceMethod yX0_join, Cond.selects RX0 yX0_join yX0_join]
def wsL_y_r3 : List Cond := [Cond.code yX0_join cX0_join 8 none, Cond.methodLink RX4 207 yX4_admitAtHint, Cond.instanceMethod yX4_admitAtHint, Cond.selects RX4 yX4_admitAtHint yX4_admitAtHint, Cond.code yX4_admitAtHint cX4_admitAtHint 4 (some .int), Cond.fieldLink RX4 182 "PartSketch$Axis" "hint" "[I", Cond.methodLink RX4 194 yX0_pinFreeGroups, Cond.instanceMethod yX0_pinFreeGroups, Cond.selects RX0 yX0_pinFreeGroups yX0_pinFreeGroups, Cond.code yX0_pinFreeGroups cX0_pinFreeGroups 3 none, Cond.fieldLink RX0 21 "PartSketch$Axis" "freeGroups" "I", Cond.fieldLink RX0 9 "PartSketch$Axis" "hint" "[I", Cond.methodLink RX0 25 yX0_join, Cond.methodLink RX4 97 yX0_placeOf, Cond.instanceMethod yX0_placeOf, Cond.selects RX0 yX0_placeOf yX0_placeOf, Cond.code yX0_placeOf cX0_placeOf 2 (some .int)]
def wsL_y : List Cond := .codeWith yL_y cL_y 4 (some .int) [(0, 9, 12, 21)] :: ((wsL_y_r1 ++ (wsL_y_r2 ++ wsL_y_r3)) ++ wsX40 ++ wsX30 ++ wsX00 ++ (vx_atS RX4 172 "java/lang/IndexOutOfBoundsException" ["java/lang/RuntimeException", "java/lang/Exception"]).filter goodWord)
def wsL_tell_r1 : List Cond := [Cond.classLink RL 13 "java/lang/IllegalArgumentException", Cond.classLink RL 21 "java/lang/IndexOutOfBoundsException", Cond.classLink RL 15 "java/lang/IllegalStateException", Cond.methodLink RL 43 yX4_tell, Cond.instanceMethod yX4_tell, Cond.selects RX4 yX4_tell yX4_tell, Cond.initialized RX4, Cond.code yX4_tell cX4_tell 4 (some .int), Cond.fieldLink RX4 22 "PartSketch" "rows" "LPartSketch$WishRows;", Cond.fieldLink RX4 104 "PartSketch$WishRows" "told" "[[I", Cond.methodLink RX4 101 yX4_requireVariant, Cond.static yX4_requireVariant, Cond.code yX4_requireVariant cX4_requireVariant 1 none, Cond.classLink RX4 55 "java/lang/IllegalArgumentException", Cond.initialized "java/lang/IllegalArgumentException", Cond.methodLink RX4 33 yX4_requireReach, Cond.static yX4_requireReach, Cond.code yX4_requireReach cX4_requireReach 1 none, Cond.methodLink RX4 75 yX4_requireWish, Cond.instanceMethod yX4_requireWish, Cond.selects RX4 yX4_requireWish yX4_requireWish, Cond.code yX4_requireWish cX4_requireWish 2 none, Cond.classLink RX4 168 "java/lang/IndexOutOfBoundsException", Cond.initialized "java/lang/IndexOutOfBoundsException"]
def wsL_tell_r2 : List Cond := [Cond.fieldLink RX4 62 "PartSketch$WishRows" "count" "I", Cond.methodLink RX4 88 yX4_requireSized, Cond.instanceMethod yX4_requireSized, Cond.selects RX4 yX4_requireSized yX4_requireSized, Cond.code yX4_requireSized cX4_requireSized 2 none, Cond.classLink RX4 41 "java/lang/IllegalStateException", Cond.initialized "java/lang/IllegalStateException", Cond.fieldLink RX4 175 "PartSketch$WishRows" "kind" "[I", Cond.methodLink RX4 108 yX3_countTold, Cond.instanceMethod yX3_countTold, Cond.selects RX3 yX3_countTold yX3_countTold, Cond.initialized RX3, Cond.code yX3_countTold cX3_countTold 4 (some .int), Cond.fieldLink RX3 32 "PartSketch$WishRows" "count" "I", Cond.fieldLink RX3 29 "PartSketch$WishRows" "told" "[[I"]
def wsL_tell : List Cond := .codeWith yL_tell cL_tell 6 (some .int) [(0, 12, 15, 13), (0, 12, 19, 21), (0, 12, 23, 15)] :: ((wsL_tell_r1 ++ wsL_tell_r2) ++ wsX40 ++ wsX30 ++ (vx_atS RX4 59 "java/lang/IllegalArgumentException" ["java/lang/RuntimeException", "java/lang/Exception"]).filter goodWord ++ (vx_atS RX4 172 "java/lang/IndexOutOfBoundsException" ["java/lang/RuntimeException", "java/lang/Exception"]).filter goodWord ++ (vx_atS RX4 45 "java/lang/IllegalStateException" ["java/lang/RuntimeException", "java/lang/Exception"]).filter goodWord)
def wsL_choose : List Cond := .codeWith yL_choose cL_choose 4 (some .int) [(0, 9, 12, 13)] :: ([.classLink RL 13 "java/lang/IllegalArgumentException", .methodLink RL 47 yX4_choose, .instanceMethod yX4_choose, .selects RX4 yX4_choose yX4_choose, .initialized RX4, .code yX4_choose cX4_choose 2 (some .int), .fieldLink RX4 67 "PartSketch" "settled" "Z", .fieldLink RX4 22 "PartSketch" "rows" "LPartSketch$WishRows;", .methodLink RX4 101 yX4_requireVariant, .static yX4_requireVariant, .code yX4_requireVariant cX4_requireVariant 1 none, .classLink RX4 55 "java/lang/IllegalArgumentException", .initialized "java/lang/IllegalArgumentException", .methodLink RX4 111 yX3_takeOver, .instanceMethod yX3_takeOver, .selects RX3 yX3_takeOver yX3_takeOver, .initialized RX3, .code yX3_takeOver cX3_takeOver 5 (some .int), .fieldLink RX3 32 "PartSketch$WishRows" "count" "I", .fieldLink RX3 29 "PartSketch$WishRows" "told" "[[I", .fieldLink RX3 21 "PartSketch$WishRows" "size" "[I"] ++ wsX40 ++ wsX30 ++ (vx_atS RX4 59 "java/lang/IllegalArgumentException" ["java/lang/RuntimeException", "java/lang/Exception"]).filter goodWord)
def wsL_setBase_r1 : List Cond := [Cond.classLink RL 21 "java/lang/IndexOutOfBoundsException", Cond.classLink RL 13 "java/lang/IllegalArgumentException", Cond.methodLink RL 50 yX4_setBase, Cond.instanceMethod yX4_setBase, Cond.selects RX4 yX4_setBase yX4_setBase, Cond.initialized RX4, Cond.code yX4_setBase cX4_setBase 4 (some .boolean), Cond.fieldLink RX4 29 "PartSketch" "body" "LPartSketch$Body;", Cond.fieldLink RX4 127 "PartSketch$Block" "failing" "Z", Cond.methodLink RX4 52 yX4_requirePoint, Cond.instanceMethod yX4_requirePoint, Cond.selects RX4 yX4_requirePoint yX4_requirePoint, Cond.code yX4_requirePoint cX4_requirePoint 2 none, Cond.classLink RX4 168 "java/lang/IndexOutOfBoundsException", Cond.initialized "java/lang/IndexOutOfBoundsException", Cond.fieldLink RX4 37 "PartSketch" "points" "I", Cond.methodLink RX4 114 yX4_requireDepth, Cond.static yX4_requireDepth, Cond.code yX4_requireDepth cX4_requireDepth 1 none, Cond.classLink RX4 55 "java/lang/IllegalArgumentException", Cond.initialized "java/lang/IllegalArgumentException", Cond.methodLink RX4 117 yX2_layBase, Cond.instanceMethod yX2_layBase, Cond.selects RX2 yX2_layBase yX2_layBase]
def wsL_setBase_r2 : List Cond := [Cond.initialized RX2, Cond.code yX2_layBase cX2_layBase 4 none, Cond.fieldLink RX2 33 "PartSketch$Body" "hasBase" "Z", Cond.methodLink RX2 25 yX2_base, Cond.instanceMethod yX2_base, Cond.selects RX2 yX2_base yX2_base, Cond.code yX2_base cX2_base 1 (some (.object "PartSketch$Block")), Cond.fieldLink RX2 11 "PartSketch$Body" "blocks" "[LPartSketch$Block;", Cond.methodLink RX2 29 yX1_put, Cond.instanceMethod yX1_put, Cond.selects RX1 yX1_put yX1_put, Cond.initialized RX1, Cond.code yX1_put cX1_put 5 none, Cond.fieldLink RX1 7 "PartSketch$Block" "one" "I", Cond.fieldLink RX1 13 "PartSketch$Block" "other" "I", Cond.fieldLink RX1 16 "PartSketch$Block" "depth" "I", Cond.fieldLink RX1 19 "PartSketch$Block" "outer" "LPartSketch$Block;", Cond.methodLink RX4 120 yX4_measure, Cond.instanceMethod yX4_measure, Cond.selects RX4 yX4_measure yX4_measure, Cond.code yX4_measure cX4_measure 1 none, Cond.fieldLink RX4 12 "PartSketch" "xAxis" "LPartSketch$Axis;", Cond.fieldLink RX4 16 "PartSketch" "yAxis" "LPartSketch$Axis;", Cond.methodLink RX4 78 yX4_settle]
def wsL_setBase_r3 : List Cond := [Cond.instanceMethod yX4_settle, Cond.selects RX4 yX4_settle yX4_settle, Cond.code yX4_settle cX4_settle 2 none, Cond.fieldLink RX4 67 "PartSketch" "settled" "Z", Cond.fieldLink RX4 22 "PartSketch" "rows" "LPartSketch$WishRows;", Cond.fieldLink RX4 62 "PartSketch$WishRows" "count" "I", Cond.fieldLink RX4 81 "PartSketch$WishRows" "state" "[I", Cond.methodLink RX4 188 yX0_loosen, Cond.instanceMethod yX0_loosen, Cond.selects RX0 yX0_loosen yX0_loosen, Cond.initialized RX0, Cond.code yX0_loosen cX0_loosen 2 none, Cond.fieldLink RX0 15 "PartSketch$Axis" "group" "[I", Cond.fieldLink RX0 18 "PartSketch$Axis" "place" "[I", Cond.methodLink RX4 191 yX4_admit, Cond.instanceMethod yX4_admit, Cond.selects RX4 yX4_admit yX4_admit, Cond.code yX4_admit cX4_admit 5 (some .int), Cond.fieldLink RX4 197 "PartSketch$WishRows" "one" "[I", Cond.fieldLink RX4 200 "PartSketch$WishRows" "other" "[I", Cond.fieldLink RX4 91 "PartSketch$WishRows" "size" "[I", Cond.fieldLink RX4 175 "PartSketch$WishRows" "kind" "[I", Cond.methodLink RX4 203 yX4_admitApart, Cond.static yX4_admitApart]
def wsL_setBase_r4 : List Cond := [Cond.code yX4_admitApart cX4_admitApart 5 (some .int), Cond.methodLink RX4 210 yX0_judge, Cond.instanceMethod yX0_judge, Cond.selects RX0 yX0_judge yX0_judge, Cond.code yX0_judge cX0_judge 4 (some .int), Cond.methodLink RX4 214 yX0_join, Cond.instanceMethod yX0_join, Cond.selects RX0 yX0_join yX0_join, Cond.code yX0_join cX0_join 8 none, Cond.methodLink RX4 207 yX4_admitAtHint, Cond.instanceMethod yX4_admitAtHint, Cond.selects RX4 yX4_admitAtHint yX4_admitAtHint, Cond.code yX4_admitAtHint cX4_admitAtHint 4 (some .int), Cond.fieldLink RX4 182 "PartSketch$Axis" "hint" "[I", Cond.methodLink RX4 194 yX0_pinFreeGroups, Cond.instanceMethod yX0_pinFreeGroups, Cond.selects RX0 yX0_pinFreeGroups yX0_pinFreeGroups, Cond.code yX0_pinFreeGroups cX0_pinFreeGroups 3 none, Cond.fieldLink RX0 21 "PartSketch$Axis" "freeGroups" "I", Cond.fieldLink RX0 9 "PartSketch$Axis" "hint" "[I", Cond.methodLink RX0 25 yX0_join, Cond.methodLink RX4 185 yX2_measure, Cond.instanceMethod yX2_measure, Cond.selects RX2 yX2_measure yX2_measure]
def wsL_setBase_r5 : List Cond := [Cond.code yX2_measure cX2_measure 4 none, Cond.fieldLink RX2 37 "PartSketch$Body" "pockets" "I", Cond.fieldLink RX2 45 "PartSketch$Block" "depth" "I", Cond.methodLink RX2 41 yX2_pocketAt, Cond.instanceMethod yX2_pocketAt, Cond.selects RX2 yX2_pocketAt yX2_pocketAt, Cond.code yX2_pocketAt cX2_pocketAt 2 (some (.object "PartSketch$Block")), Cond.methodLink RX2 48 yX1_measure, Cond.instanceMethod yX1_measure, Cond.selects RX1 yX1_measure yX1_measure, Cond.code yX1_measure cX1_measure 5 none, Cond.methodLink RX1 29 Lib.Math.min.name, Cond.static Lib.Math.min.name, Cond.initialized "java/lang/Math", Cond.code Lib.Math.min.name Lib.Math.min.code 2 (some .int), Cond.fieldLink RX1 35 "PartSketch$Block" "left" "I", Cond.methodLink RX1 38 Lib.Math.max.name, Cond.static Lib.Math.max.name, Cond.code Lib.Math.max.name Lib.Math.max.code 2 (some .int), Cond.fieldLink RX1 41 "PartSketch$Block" "right" "I", Cond.fieldLink RX1 44 "PartSketch$Block" "low" "I", Cond.fieldLink RX1 47 "PartSketch$Block" "high" "I", Cond.fieldLink RX1 50 "PartSketch$Block" "bottom" "I", Cond.fieldLink RX1 53 "PartSketch$Block" "failing" "Z"]
def wsL_setBase_r6 : List Cond := [Cond.methodLink RX1 23 yX0_placeOf, Cond.instanceMethod yX0_placeOf, Cond.selects RX0 yX0_placeOf yX0_placeOf, Cond.code yX0_placeOf cX0_placeOf 2 (some .int), Cond.methodLink RX1 57 yX1_liesIn, Cond.instanceMethod yX1_liesIn, Cond.selects RX1 yX1_liesIn yX1_liesIn, Cond.code yX1_liesIn cX1_liesIn 2 (some .boolean), Cond.methodLink RX4 123 yX2_base]
def wsL_setBase : List Cond := .codeWith yL_setBase cL_setBase 6 (some .int) [(0, 19, 22, 21), (0, 19, 26, 13)] :: ((wsL_setBase_r1 ++ (wsL_setBase_r2 ++ (wsL_setBase_r3 ++ (wsL_setBase_r4 ++ (wsL_setBase_r5 ++ wsL_setBase_r6))))) ++ wsX40 ++ wsX10 ++ wsX20 ++ wsX30 ++ wsX00 ++ (vx_atS RX4 172 "java/lang/IndexOutOfBoundsException" ["java/lang/RuntimeException", "java/lang/Exception"]).filter goodWord ++ (vx_atS RX4 59 "java/lang/IllegalArgumentException" ["java/lang/RuntimeException", "java/lang/Exception"]).filter goodWord)
def wsL_pocket_r1 : List Cond := [Cond.classLink RL 21 "java/lang/IndexOutOfBoundsException", Cond.classLink RL 13 "java/lang/IllegalArgumentException", Cond.classLink RL 15 "java/lang/IllegalStateException", Cond.methodLink RL 54 yX4_pocket, Cond.instanceMethod yX4_pocket, Cond.selects RX4 yX4_pocket yX4_pocket, Cond.initialized RX4, Cond.code yX4_pocket cX4_pocket 5 (some .int), Cond.classLink RX4 41 "java/lang/IllegalStateException", Cond.initialized "java/lang/IllegalStateException", Cond.fieldLink RX4 29 "PartSketch" "body" "LPartSketch$Body;", Cond.fieldLink RX4 135 "PartSketch$Body" "hasBase" "Z", Cond.fieldLink RX4 140 "PartSketch$Body" "pockets" "I", Cond.methodLink RX4 52 yX4_requirePoint, Cond.instanceMethod yX4_requirePoint, Cond.selects RX4 yX4_requirePoint yX4_requirePoint, Cond.code yX4_requirePoint cX4_requirePoint 2 none, Cond.classLink RX4 168 "java/lang/IndexOutOfBoundsException", Cond.initialized "java/lang/IndexOutOfBoundsException", Cond.fieldLink RX4 37 "PartSketch" "points" "I", Cond.methodLink RX4 132 yX4_requirePocket, Cond.instanceMethod yX4_requirePocket, Cond.selects RX4 yX4_requirePocket yX4_requirePocket, Cond.code yX4_requirePocket cX4_requirePocket 2 none]
def wsL_pocket_r2 : List Cond := [Cond.methodLink RX4 114 yX4_requireDepth, Cond.static yX4_requireDepth, Cond.code yX4_requireDepth cX4_requireDepth 1 none, Cond.classLink RX4 55 "java/lang/IllegalArgumentException", Cond.initialized "java/lang/IllegalArgumentException", Cond.methodLink RX4 145 yX2_addPocket, Cond.instanceMethod yX2_addPocket, Cond.selects RX2 yX2_addPocket yX2_addPocket, Cond.initialized RX2, Cond.code yX2_addPocket cX2_addPocket 6 (some .int), Cond.fieldLink RX2 37 "PartSketch$Body" "pockets" "I", Cond.methodLink RX2 41 yX2_pocketAt, Cond.instanceMethod yX2_pocketAt, Cond.selects RX2 yX2_pocketAt yX2_pocketAt, Cond.code yX2_pocketAt cX2_pocketAt 2 (some (.object "PartSketch$Block")), Cond.fieldLink RX2 11 "PartSketch$Body" "blocks" "[LPartSketch$Block;", Cond.methodLink RX2 29 yX1_put, Cond.instanceMethod yX1_put, Cond.selects RX1 yX1_put yX1_put, Cond.initialized RX1, Cond.code yX1_put cX1_put 5 none, Cond.fieldLink RX1 7 "PartSketch$Block" "one" "I", Cond.fieldLink RX1 13 "PartSketch$Block" "other" "I", Cond.fieldLink RX1 16 "PartSketch$Block" "depth" "I"]
def wsL_pocket_r3 : List Cond := [Cond.fieldLink RX1 19 "PartSketch$Block" "outer" "LPartSketch$Block;"]
def wsL_pocket : List Cond := .codeWith yL_pocket cL_pocket 7 (some .int) [(0, 14, 17, 21), (0, 14, 21, 13), (0, 14, 25, 15)] :: ((wsL_pocket_r1 ++ (wsL_pocket_r2 ++ wsL_pocket_r3)) ++ wsX40 ++ wsX20 ++ wsX10 ++ (vx_atS RX4 45 "java/lang/IllegalStateException" ["java/lang/RuntimeException", "java/lang/Exception"]).filter goodWord ++ (vx_atS RX4 172 "java/lang/IndexOutOfBoundsException" ["java/lang/RuntimeException", "java/lang/Exception"]).filter goodWord ++ (vx_atS RX4 59 "java/lang/IllegalArgumentException" ["java/lang/RuntimeException", "java/lang/Exception"]).filter goodWord)
def wsL_fails_r1 : List Cond := [Cond.classLink RL 21 "java/lang/IndexOutOfBoundsException", Cond.methodLink RL 57 yX4_fails, Cond.instanceMethod yX4_fails, Cond.selects RX4 yX4_fails yX4_fails, Cond.initialized RX4, Cond.code yX4_fails cX4_fails 2 (some .boolean), Cond.fieldLink RX4 29 "PartSketch" "body" "LPartSketch$Body;", Cond.fieldLink RX4 127 "PartSketch$Block" "failing" "Z", Cond.methodLink RX4 132 yX4_requirePocket, Cond.instanceMethod yX4_requirePocket, Cond.selects RX4 yX4_requirePocket yX4_requirePocket, Cond.code yX4_requirePocket cX4_requirePocket 2 none, Cond.classLink RX4 168 "java/lang/IndexOutOfBoundsException", Cond.initialized "java/lang/IndexOutOfBoundsException", Cond.fieldLink RX4 140 "PartSketch$Body" "pockets" "I", Cond.methodLink RX4 120 yX4_measure, Cond.instanceMethod yX4_measure, Cond.selects RX4 yX4_measure yX4_measure, Cond.code yX4_measure cX4_measure 1 none, Cond.fieldLink RX4 12 "PartSketch" "xAxis" "LPartSketch$Axis;", Cond.fieldLink RX4 16 "PartSketch" "yAxis" "LPartSketch$Axis;", Cond.methodLink RX4 78 yX4_settle, Cond.instanceMethod yX4_settle, Cond.selects RX4 yX4_settle yX4_settle]
def wsL_fails_r2 : List Cond := [Cond.code yX4_settle cX4_settle 2 none, Cond.fieldLink RX4 67 "PartSketch" "settled" "Z", Cond.fieldLink RX4 22 "PartSketch" "rows" "LPartSketch$WishRows;", Cond.fieldLink RX4 62 "PartSketch$WishRows" "count" "I", Cond.fieldLink RX4 81 "PartSketch$WishRows" "state" "[I", Cond.fieldLink RX4 37 "PartSketch" "points" "I", Cond.methodLink RX4 188 yX0_loosen, Cond.instanceMethod yX0_loosen, Cond.selects RX0 yX0_loosen yX0_loosen, Cond.initialized RX0, Cond.code yX0_loosen cX0_loosen 2 none, Cond.fieldLink RX0 15 "PartSketch$Axis" "group" "[I", Cond.fieldLink RX0 18 "PartSketch$Axis" "place" "[I", Cond.methodLink RX4 191 yX4_admit, Cond.instanceMethod yX4_admit, Cond.selects RX4 yX4_admit yX4_admit, Cond.code yX4_admit cX4_admit 5 (some .int), Cond.fieldLink RX4 197 "PartSketch$WishRows" "one" "[I", Cond.fieldLink RX4 200 "PartSketch$WishRows" "other" "[I", Cond.fieldLink RX4 91 "PartSketch$WishRows" "size" "[I", Cond.fieldLink RX4 175 "PartSketch$WishRows" "kind" "[I", Cond.methodLink RX4 203 yX4_admitApart, Cond.static yX4_admitApart, Cond.code yX4_admitApart cX4_admitApart 5 (some .int)]
def wsL_fails_r3 : List Cond := [Cond.methodLink RX4 210 yX0_judge, Cond.instanceMethod yX0_judge, Cond.selects RX0 yX0_judge yX0_judge, Cond.code yX0_judge cX0_judge 4 (some .int), Cond.methodLink RX4 214 yX0_join, Cond.instanceMethod yX0_join, Cond.selects RX0 yX0_join yX0_join, Cond.code yX0_join cX0_join 8 none, Cond.methodLink RX4 207 yX4_admitAtHint, Cond.instanceMethod yX4_admitAtHint, Cond.selects RX4 yX4_admitAtHint yX4_admitAtHint, Cond.code yX4_admitAtHint cX4_admitAtHint 4 (some .int), Cond.fieldLink RX4 182 "PartSketch$Axis" "hint" "[I", Cond.methodLink RX4 194 yX0_pinFreeGroups, Cond.instanceMethod yX0_pinFreeGroups, Cond.selects RX0 yX0_pinFreeGroups yX0_pinFreeGroups, Cond.code yX0_pinFreeGroups cX0_pinFreeGroups 3 none, Cond.fieldLink RX0 21 "PartSketch$Axis" "freeGroups" "I", Cond.fieldLink RX0 9 "PartSketch$Axis" "hint" "[I", Cond.methodLink RX0 25 yX0_join, Cond.methodLink RX4 185 yX2_measure, Cond.instanceMethod yX2_measure, Cond.selects RX2 yX2_measure yX2_measure, Cond.initialized RX2]
def wsL_fails_r4 : List Cond := [Cond.code yX2_measure cX2_measure 4 none, Cond.fieldLink RX2 33 "PartSketch$Body" "hasBase" "Z", Cond.fieldLink RX2 37 "PartSketch$Body" "pockets" "I", Cond.fieldLink RX2 45 "PartSketch$Block" "depth" "I", Cond.methodLink RX2 41 yX2_pocketAt, Cond.instanceMethod yX2_pocketAt, Cond.selects RX2 yX2_pocketAt yX2_pocketAt, Cond.code yX2_pocketAt cX2_pocketAt 2 (some (.object "PartSketch$Block")), Cond.fieldLink RX2 11 "PartSketch$Body" "blocks" "[LPartSketch$Block;", Cond.methodLink RX2 25 yX2_base, Cond.instanceMethod yX2_base, Cond.selects RX2 yX2_base yX2_base, Cond.code yX2_base cX2_base 1 (some (.object "PartSketch$Block")), Cond.methodLink RX2 48 yX1_measure, Cond.instanceMethod yX1_measure, Cond.selects RX1 yX1_measure yX1_measure, Cond.initialized RX1, Cond.code yX1_measure cX1_measure 5 none, Cond.fieldLink RX1 7 "PartSketch$Block" "one" "I", Cond.fieldLink RX1 13 "PartSketch$Block" "other" "I", Cond.methodLink RX1 29 Lib.Math.min.name, Cond.static Lib.Math.min.name, Cond.initialized "java/lang/Math", Cond.code Lib.Math.min.name Lib.Math.min.code 2 (some .int)]
def wsL_fails_r5 : List Cond := [Cond.fieldLink RX1 35 "PartSketch$Block" "left" "I", Cond.methodLink RX1 38 Lib.Math.max.name, Cond.static Lib.Math.max.name, Cond.code Lib.Math.max.name Lib.Math.max.code 2 (some .int), Cond.fieldLink RX1 41 "PartSketch$Block" "right" "I", Cond.fieldLink RX1 44 "PartSketch$Block" "low" "I", Cond.fieldLink RX1 47 "PartSketch$Block" "high" "I", Cond.fieldLink RX1 19 "PartSketch$Block" "outer" "LPartSketch$Block;", Cond.fieldLink RX1 50 "PartSketch$Block" "bottom" "I", Cond.fieldLink RX1 53 "PartSketch$Block" "failing" "Z", Cond.fieldLink RX1 16 "PartSketch$Block" "depth" "I", Cond.methodLink RX1 23 yX0_placeOf, Cond.instanceMethod yX0_placeOf, Cond.selects RX0 yX0_placeOf yX0_placeOf, Cond.code yX0_placeOf cX0_placeOf 2 (some .int), Cond.methodLink RX1 57 yX1_liesIn, Cond.instanceMethod yX1_liesIn, Cond.selects RX1 yX1_liesIn yX1_liesIn, Cond.code yX1_liesIn cX1_liesIn 2 (some .boolean), Cond.methodLink RX4 148 yX2_pocketAt]
def wsL_fails : List Cond := .codeWith yL_fails cL_fails 4 (some .int) [(0, 16, 19, 21)] :: ((wsL_fails_r1 ++ (wsL_fails_r2 ++ (wsL_fails_r3 ++ (wsL_fails_r4 ++ wsL_fails_r5)))) ++ wsX40 ++ wsX10 ++ wsX20 ++ wsX30 ++ wsX00 ++ (vx_atS RX4 172 "java/lang/IndexOutOfBoundsException" ["java/lang/RuntimeException", "java/lang/Exception"]).filter goodWord)
def wsL_law0_r1 : List Cond := [Cond.classLink RL 8 RX4, Cond.instantiable RX4 6, Cond.initialized RX4, Cond.classLink RL 62 RX5, Cond.instantiable RX5 29, Cond.initialized RX5, Cond.arrayClass .long, Cond.methodLink RL 61 yX4_init, Cond.instanceMethod yX4_init, Cond.code yX4_init cX4_init 1 none, Cond.methodLink RX4 3 objectInit, Cond.instanceMethod objectInit, Cond.code objectInit ⟨#[0xb1]⟩ 1 none, Cond.classLink RX4 9 RX0, Cond.instantiable RX0 4, Cond.initialized RX0, Cond.fieldLink RX4 12 "PartSketch" "xAxis" "LPartSketch$Axis;", Cond.fieldLink RX4 16 "PartSketch" "yAxis" "LPartSketch$Axis;", Cond.classLink RX4 19 RX3, Cond.instantiable RX3 7, Cond.initialized RX3, Cond.fieldLink RX4 22 "PartSketch" "rows" "LPartSketch$WishRows;", Cond.classLink RX4 26 RX2, Cond.instantiable RX2 5]
def wsL_law0_r2 : List Cond := [Cond.initialized RX2, Cond.fieldLink RX4 29 "PartSketch" "body" "LPartSketch$Body;", Cond.instanceMethod yX0_init, Cond.code yX0_init cX0_init 1 none, Cond.methodLink RX0 3 objectInit, Cond.arrayClass .int, Cond.fieldLink RX0 9 "PartSketch$Axis" "hint" "[I", Cond.fieldLink RX0 15 "PartSketch$Axis" "group" "[I", Cond.fieldLink RX0 18 "PartSketch$Axis" "place" "[I", Cond.instanceMethod yX3_init, Cond.code yX3_init cX3_init 1 none, Cond.methodLink RX3 3 objectInit, Cond.fieldLink RX3 9 "PartSketch$WishRows" "kind" "[I", Cond.fieldLink RX3 15 "PartSketch$WishRows" "one" "[I", Cond.fieldLink RX3 18 "PartSketch$WishRows" "other" "[I", Cond.fieldLink RX3 21 "PartSketch$WishRows" "size" "[I", Cond.fieldLink RX3 24 "PartSketch$WishRows" "state" "[I", Cond.classLink RX3 27 "[[I", Cond.fieldLink RX3 29 "PartSketch$WishRows" "told" "[[I", Cond.methodLink RX4 28 yX2_init, Cond.instanceMethod yX2_init, Cond.code yX2_init cX2_init 2 none, Cond.methodLink RX2 3 objectInit, Cond.classLink RX2 9 RX1]
def wsL_law0_r3 : List Cond := [Cond.fieldLink RX2 11 "PartSketch$Body" "blocks" "[LPartSketch$Block;", Cond.fieldLink RX2 17 "PartSketch$Body" "xSides" "[I", Cond.fieldLink RX2 21 "PartSketch$Body" "ySides" "[I", Cond.instantiable RX1 10, Cond.initialized RX1, Cond.instanceMethod yX1_init, Cond.code yX1_init cX1_init 1 none, Cond.methodLink RX1 1 objectInit, Cond.methodLink RL 64 yX5_init, Cond.instanceMethod yX5_init, Cond.code yX5_init cX5_init 1 none, Cond.methodLink RX5 1 objectInit, Cond.fieldLink RX5 7 "PartSketchModel" "hintX" "[I", Cond.fieldLink RX5 13 "PartSketchModel" "hintY" "[I", Cond.fieldLink RX5 16 "PartSketchModel" "kind" "[I", Cond.fieldLink RX5 19 "PartSketchModel" "one" "[I", Cond.fieldLink RX5 22 "PartSketchModel" "other" "[I", Cond.fieldLink RX5 25 "PartSketchModel" "size" "[I", Cond.fieldLink RX5 28 "PartSketchModel" "state" "[I", Cond.fieldLink RX5 31 "PartSketchModel" "sizes" "[I", Cond.arrayClass .boolean, Cond.fieldLink RX5 34 "PartSketchModel" "tells" "[Z", Cond.fieldLink RX5 38 "PartSketchModel" "group" "[I", Cond.fieldLink RX5 41 "PartSketchModel" "off" "[I"]
def wsL_law0_r4 : List Cond := [Cond.fieldLink RX5 44 "PartSketchModel" "corner" "[I", Cond.fieldLink RX5 47 "PartSketchModel" "against" "[I", Cond.fieldLink RX5 50 "PartSketchModel" "depth" "[I", Cond.fieldLink RX5 53 "PartSketchModel" "within" "[I", Cond.fieldLink RX5 56 "PartSketchModel" "side" "[I", Cond.fieldLink RX5 59 "PartSketchModel" "begins" "[I", Cond.fieldLink RX5 62 "PartSketchModel" "failing" "[Z", Cond.fieldLink RX5 65 "PartSketchModel" "cutX" "[I", Cond.fieldLink RX5 68 "PartSketchModel" "cutY" "[I", Cond.fieldLink RX5 71 "PartSketchModel" "cutZ" "[I", Cond.methodLink RL 65 yL_point, Cond.static yL_point, Cond.initialized RL, Cond.codeWith yL_point cL_point 5 (some .int) [(0, 10, 13, 13), (0, 10, 17, 15)], Cond.classLink RL 13 "java/lang/IllegalArgumentException", Cond.classLink RL 15 "java/lang/IllegalStateException", Cond.methodLink RL 7 yX4_point, Cond.instanceMethod yX4_point, Cond.selects RX4 yX4_point yX4_point, Cond.code yX4_point cX4_point 4 (some .int), Cond.classLink RX4 41 "java/lang/IllegalStateException", Cond.initialized "java/lang/IllegalStateException", Cond.fieldLink RX4 37 "PartSketch" "points" "I", Cond.methodLink RX4 33 yX4_requireReach]
def wsL_law0_r5 : List Cond := [Cond.static yX4_requireReach, Cond.code yX4_requireReach cX4_requireReach 1 none, Cond.classLink RX4 55 "java/lang/IllegalArgumentException", Cond.initialized "java/lang/IllegalArgumentException", Cond.methodLink RX4 48 yX4_moveHint, Cond.instanceMethod yX4_moveHint, Cond.selects RX4 yX4_moveHint yX4_moveHint, Cond.code yX4_moveHint cX4_moveHint 4 none, Cond.fieldLink RX4 182 "PartSketch$Axis" "hint" "[I", Cond.fieldLink RX4 67 "PartSketch" "settled" "Z", Cond.methodLink RL 70 yX5_point, Cond.instanceMethod yX5_point, Cond.selects RX5 yX5_point yX5_point, Cond.code yX5_point cX5_point 3 (some .int), Cond.fieldLink RX5 74 "PartSketchModel" "thrown" "I", Cond.fieldLink RX5 82 "PartSketchModel" "points" "I", Cond.methodLink RX5 96 yX5_isNear, Cond.static yX5_isNear, Cond.code yX5_isNear cX5_isNear 1 (some .boolean), Cond.methodLink RX5 78 yX5_in, Cond.static yX5_in, Cond.code yX5_in cX5_in 3 (some .boolean), Cond.methodLink RX5 100 yX5_refuses, Cond.instanceMethod yX5_refuses]
def wsL_law0_r6 : List Cond := [Cond.selects RX5 yX5_refuses yX5_refuses, Cond.code yX5_refuses cX5_refuses 2 (some .int), Cond.methodLink RL 71 yX5_thrown, Cond.instanceMethod yX5_thrown, Cond.selects RX5 yX5_thrown yX5_thrown, Cond.code yX5_thrown cX5_thrown 1 (some .int), Cond.methodLink RL 75 yL_hint, Cond.static yL_hint, Cond.codeWith yL_hint cL_hint 5 (some .int) [(0, 7, 10, 21), (0, 7, 14, 13)], Cond.classLink RL 21 "java/lang/IndexOutOfBoundsException", Cond.methodLink RL 17 yX4_hint, Cond.instanceMethod yX4_hint, Cond.selects RX4 yX4_hint yX4_hint, Cond.code yX4_hint cX4_hint 4 none, Cond.methodLink RX4 52 yX4_requirePoint, Cond.instanceMethod yX4_requirePoint, Cond.selects RX4 yX4_requirePoint yX4_requirePoint, Cond.code yX4_requirePoint cX4_requirePoint 2 none, Cond.classLink RX4 168 "java/lang/IndexOutOfBoundsException", Cond.initialized "java/lang/IndexOutOfBoundsException", Cond.methodLink RL 78 yX5_hint, Cond.instanceMethod yX5_hint, Cond.selects RX5 yX5_hint yX5_hint, Cond.code yX5_hint cX5_hint 4 none]
def wsL_law0_r7 : List Cond := [Cond.methodLink RX5 104 yX5_isPoint, Cond.instanceMethod yX5_isPoint, Cond.selects RX5 yX5_isPoint yX5_isPoint, Cond.code yX5_isPoint cX5_isPoint 2 (some .boolean), Cond.methodLink RL 79 yL_wish, Cond.static yL_wish, Cond.codeWith yL_wish cL_wish 7 (some .int) [(0, 14, 17, 13), (0, 14, 21, 21), (0, 14, 25, 15)], Cond.methodLink RL 23 yX4_wish, Cond.instanceMethod yX4_wish, Cond.selects RX4 yX4_wish yX4_wish, Cond.code yX4_wish cX4_wish 5 (some .int), Cond.fieldLink RX4 62 "PartSketch$WishRows" "count" "I", Cond.methodLink RX4 71 yX3_append, Cond.instanceMethod yX3_append, Cond.selects RX3 yX3_append yX3_append, Cond.code yX3_append cX3_append 7 (some .int), Cond.fieldLink RX3 32 "PartSketch$WishRows" "count" "I", Cond.methodLink RL 82 yX5_wish, Cond.instanceMethod yX5_wish, Cond.selects RX5 yX5_wish yX5_wish, Cond.code yX5_wish cX5_wish 6 (some .int), Cond.fieldLink RX5 85 "PartSketchModel" "wishes" "I", Cond.methodLink RL 83 yL_remove, Cond.static yL_remove]
def wsL_law0_r8 : List Cond := [Cond.codeWith yL_remove cL_remove 4 (some .int) [(0, 9, 12, 21)], Cond.methodLink RL 27 yX4_remove, Cond.instanceMethod yX4_remove, Cond.selects RX4 yX4_remove yX4_remove, Cond.code yX4_remove cX4_remove 3 (some .int), Cond.fieldLink RX4 81 "PartSketch$WishRows" "state" "[I", Cond.methodLink RX4 75 yX4_requireWish, Cond.instanceMethod yX4_requireWish, Cond.selects RX4 yX4_requireWish yX4_requireWish, Cond.code yX4_requireWish cX4_requireWish 2 none, Cond.methodLink RX4 78 yX4_settle, Cond.instanceMethod yX4_settle, Cond.selects RX4 yX4_settle yX4_settle, Cond.code yX4_settle cX4_settle 2 none, Cond.methodLink RX4 188 yX0_loosen, Cond.instanceMethod yX0_loosen, Cond.selects RX0 yX0_loosen yX0_loosen, Cond.code yX0_loosen cX0_loosen 2 none, Cond.methodLink RX4 191 yX4_admit, Cond.instanceMethod yX4_admit, Cond.selects RX4 yX4_admit yX4_admit, Cond.code yX4_admit cX4_admit 5 (some .int), Cond.fieldLink RX4 197 "PartSketch$WishRows" "one" "[I", Cond.fieldLink RX4 200 "PartSketch$WishRows" "other" "[I"]
def wsL_law0_r9 : List Cond := [Cond.fieldLink RX4 91 "PartSketch$WishRows" "size" "[I", Cond.fieldLink RX4 175 "PartSketch$WishRows" "kind" "[I", Cond.methodLink RX4 203 yX4_admitApart, Cond.static yX4_admitApart, Cond.code yX4_admitApart cX4_admitApart 5 (some .int), Cond.methodLink RX4 210 yX0_judge, Cond.instanceMethod yX0_judge, Cond.selects RX0 yX0_judge yX0_judge, Cond.code yX0_judge cX0_judge 4 (some .int), Cond.methodLink RX4 214 yX0_join, Cond.instanceMethod yX0_join, Cond.selects RX0 yX0_join yX0_join, Cond.code yX0_join cX0_join 8 none, Cond.methodLink RX4 207 yX4_admitAtHint, Cond.instanceMethod yX4_admitAtHint, Cond.selects RX4 yX4_admitAtHint yX4_admitAtHint, Cond.code yX4_admitAtHint cX4_admitAtHint 4 (some .int), Cond.methodLink RX4 194 yX0_pinFreeGroups, Cond.instanceMethod yX0_pinFreeGroups, Cond.selects RX0 yX0_pinFreeGroups yX0_pinFreeGroups, Cond.code yX0_pinFreeGroups cX0_pinFreeGroups 3 none, Cond.fieldLink RX0 21 "PartSketch$Axis" "freeGroups" "I", Cond.methodLink RX0 25 yX0_join, Cond.methodLink RX4 85 yX3_drop]
def wsL_law0_r10 : List Cond := [Cond.instanceMethod yX3_drop, Cond.selects RX3 yX3_drop yX3_drop, Cond.code yX3_drop cX3_drop 3 none, Cond.methodLink RX3 36 yX3_closeGap, Cond.instanceMethod yX3_closeGap, Cond.selects RX3 yX3_closeGap yX3_closeGap, Cond.code yX3_closeGap cX3_closeGap 3 none, Cond.methodLink RX3 40 arraycopyName, Cond.native arraycopyName, Cond.static arraycopyName, Cond.initialized "java/lang/System", Cond.methodLink RL 86 yX5_remove, Cond.instanceMethod yX5_remove, Cond.selects RX5 yX5_remove yX5_remove, Cond.code yX5_remove cX5_remove 5 (some .int), Cond.methodLink RX5 107 yX5_isWish, Cond.instanceMethod yX5_isWish, Cond.selects RX5 yX5_isWish yX5_isWish, Cond.code yX5_isWish cX5_isWish 2 (some .boolean), Cond.methodLink RX5 110 yX5_solves, Cond.instanceMethod yX5_solves, Cond.selects RX5 yX5_solves yX5_solves, Cond.code yX5_solves cX5_solves 5 none, Cond.methodLink RX5 88 yX5_holds]
def wsL_law0_r11 : List Cond := [Cond.instanceMethod yX5_holds, Cond.selects RX5 yX5_holds yX5_holds, Cond.code yX5_holds cX5_holds 7 (some .int), Cond.methodLink RX5 92 yX5_ties, Cond.instanceMethod yX5_ties, Cond.selects RX5 yX5_ties yX5_ties, Cond.code yX5_ties cX5_ties 10 none, Cond.methodLink RL 87 yL_type, Cond.static yL_type, Cond.codeWith yL_type cL_type 5 (some .int) [(0, 10, 13, 21), (0, 10, 17, 15), (0, 10, 21, 13)], Cond.methodLink RL 31 yX4_type, Cond.instanceMethod yX4_type, Cond.selects RX4 yX4_type yX4_type, Cond.code yX4_type cX4_type 4 (some .int), Cond.methodLink RX4 88 yX4_requireSized, Cond.instanceMethod yX4_requireSized, Cond.selects RX4 yX4_requireSized yX4_requireSized, Cond.code yX4_requireSized cX4_requireSized 2 none, Cond.methodLink RL 89 yX5_type, Cond.instanceMethod yX5_type, Cond.selects RX5 yX5_type yX5_type, Cond.code yX5_type cX5_type 4 (some .int), Cond.methodLink RL 90 yL_state, Cond.static yL_state]
def wsL_law0_r12 : List Cond := [Cond.codeWith yL_state cL_state 4 (some .int) [(0, 9, 12, 21)], Cond.methodLink RL 34 yX4_state, Cond.instanceMethod yX4_state, Cond.selects RX4 yX4_state yX4_state, Cond.code yX4_state cX4_state 2 (some .int), Cond.methodLink RL 92 yX5_state, Cond.instanceMethod yX5_state, Cond.selects RX5 yX5_state yX5_state, Cond.code yX5_state cX5_state 2 (some .int), Cond.methodLink RL 93 yX4_wishes, Cond.instanceMethod yX4_wishes, Cond.selects RX4 yX4_wishes yX4_wishes, Cond.code yX4_wishes cX4_wishes 1 (some .int), Cond.methodLink RL 96 yX5_wishes, Cond.instanceMethod yX5_wishes, Cond.selects RX5 yX5_wishes yX5_wishes, Cond.code yX5_wishes cX5_wishes 1 (some .int), Cond.methodLink RL 97 yX4_freedom, Cond.instanceMethod yX4_freedom, Cond.selects RX4 yX4_freedom yX4_freedom, Cond.code yX4_freedom cX4_freedom 1 (some .int), Cond.fieldLink RX4 94 "PartSketch$Axis" "freeGroups" "I", Cond.methodLink RL 100 yX5_freedom, Cond.instanceMethod yX5_freedom]
def wsL_law0_r13 : List Cond := [Cond.selects RX5 yX5_freedom yX5_freedom, Cond.code yX5_freedom cX5_freedom 6 (some .int), Cond.methodLink RL 101 yL_x, Cond.static yL_x, Cond.codeWith yL_x cL_x 4 (some .int) [(0, 9, 12, 21)], Cond.methodLink RL 37 yX4_x, Cond.instanceMethod yX4_x, Cond.selects RX4 yX4_x yX4_x, Cond.code yX4_x cX4_x 2 (some .int), Cond.methodLink RX4 97 yX0_placeOf, Cond.instanceMethod yX0_placeOf, Cond.selects RX0 yX0_placeOf yX0_placeOf, Cond.code yX0_placeOf cX0_placeOf 2 (some .int), Cond.methodLink RL 103 yX5_x, Cond.instanceMethod yX5_x, Cond.selects RX5 yX5_x yX5_x, Cond.code yX5_x cX5_x 2 (some .int), Cond.methodLink RX5 113 yX5_placeOf, Cond.instanceMethod yX5_placeOf, Cond.selects RX5 yX5_placeOf yX5_placeOf, Cond.code yX5_placeOf cX5_placeOf 7 (some .int), Cond.methodLink RL 104 yL_y, Cond.static yL_y, Cond.codeWith yL_y cL_y 4 (some .int) [(0, 9, 12, 21)]]
def wsL_law0_r14 : List Cond := [Cond.methodLink RL 40 yX4_y, Cond.instanceMethod yX4_y, Cond.selects RX4 yX4_y yX4_y, Cond.code yX4_y cX4_y 2 (some .int), Cond.methodLink RL 106 yX5_y, Cond.instanceMethod yX5_y, Cond.selects RX5 yX5_y yX5_y, Cond.code yX5_y cX5_y 2 (some .int), Cond.methodLink RL 107 yL_tell, Cond.static yL_tell, Cond.codeWith yL_tell cL_tell 6 (some .int) [(0, 12, 15, 13), (0, 12, 19, 21), (0, 12, 23, 15)], Cond.methodLink RL 43 yX4_tell, Cond.instanceMethod yX4_tell, Cond.selects RX4 yX4_tell yX4_tell, Cond.code yX4_tell cX4_tell 4 (some .int), Cond.fieldLink RX4 104 "PartSketch$WishRows" "told" "[[I", Cond.methodLink RX4 101 yX4_requireVariant, Cond.static yX4_requireVariant, Cond.code yX4_requireVariant cX4_requireVariant 1 none, Cond.methodLink RX4 108 yX3_countTold, Cond.instanceMethod yX3_countTold, Cond.selects RX3 yX3_countTold yX3_countTold, Cond.code yX3_countTold cX3_countTold 4 (some .int), Cond.methodLink RL 110 yX5_tell]
def wsL_law0_r15 : List Cond := [Cond.instanceMethod yX5_tell, Cond.selects RX5 yX5_tell yX5_tell, Cond.code yX5_tell cX5_tell 6 (some .int), Cond.methodLink RL 111 yL_choose, Cond.static yL_choose, Cond.codeWith yL_choose cL_choose 4 (some .int) [(0, 9, 12, 13)], Cond.methodLink RL 47 yX4_choose, Cond.instanceMethod yX4_choose, Cond.selects RX4 yX4_choose yX4_choose, Cond.code yX4_choose cX4_choose 2 (some .int), Cond.methodLink RX4 111 yX3_takeOver, Cond.instanceMethod yX3_takeOver, Cond.selects RX3 yX3_takeOver yX3_takeOver, Cond.code yX3_takeOver cX3_takeOver 5 (some .int), Cond.methodLink RL 113 yX5_choose, Cond.instanceMethod yX5_choose, Cond.selects RX5 yX5_choose yX5_choose, Cond.code yX5_choose cX5_choose 5 (some .int), Cond.methodLink RL 114 yL_setBase, Cond.static yL_setBase, Cond.codeWith yL_setBase cL_setBase 6 (some .int) [(0, 19, 22, 21), (0, 19, 26, 13)], Cond.methodLink RL 50 yX4_setBase, Cond.instanceMethod yX4_setBase, Cond.selects RX4 yX4_setBase yX4_setBase]
def wsL_law0_r16 : List Cond := [Cond.code yX4_setBase cX4_setBase 4 (some .boolean), Cond.fieldLink RX4 127 "PartSketch$Block" "failing" "Z", Cond.methodLink RX4 114 yX4_requireDepth, Cond.static yX4_requireDepth, Cond.code yX4_requireDepth cX4_requireDepth 1 none, Cond.methodLink RX4 117 yX2_layBase, Cond.instanceMethod yX2_layBase, Cond.selects RX2 yX2_layBase yX2_layBase, Cond.code yX2_layBase cX2_layBase 4 none, Cond.fieldLink RX2 33 "PartSketch$Body" "hasBase" "Z", Cond.methodLink RX2 25 yX2_base, Cond.instanceMethod yX2_base, Cond.selects RX2 yX2_base yX2_base, Cond.code yX2_base cX2_base 1 (some (.object "PartSketch$Block")), Cond.methodLink RX2 29 yX1_put, Cond.instanceMethod yX1_put, Cond.selects RX1 yX1_put yX1_put, Cond.code yX1_put cX1_put 5 none, Cond.fieldLink RX1 7 "PartSketch$Block" "one" "I", Cond.fieldLink RX1 13 "PartSketch$Block" "other" "I", Cond.fieldLink RX1 16 "PartSketch$Block" "depth" "I", Cond.fieldLink RX1 19 "PartSketch$Block" "outer" "LPartSketch$Block;", Cond.methodLink RX4 120 yX4_measure, Cond.instanceMethod yX4_measure]
def wsL_law0_r17 : List Cond := [Cond.selects RX4 yX4_measure yX4_measure, Cond.code yX4_measure cX4_measure 1 none, Cond.methodLink RX4 185 yX2_measure, Cond.instanceMethod yX2_measure, Cond.selects RX2 yX2_measure yX2_measure, Cond.code yX2_measure cX2_measure 4 none, Cond.fieldLink RX2 37 "PartSketch$Body" "pockets" "I", Cond.fieldLink RX2 45 "PartSketch$Block" "depth" "I", Cond.methodLink RX2 41 yX2_pocketAt, Cond.instanceMethod yX2_pocketAt, Cond.selects RX2 yX2_pocketAt yX2_pocketAt, Cond.code yX2_pocketAt cX2_pocketAt 2 (some (.object "PartSketch$Block")), Cond.methodLink RX2 48 yX1_measure, Cond.instanceMethod yX1_measure, Cond.selects RX1 yX1_measure yX1_measure, Cond.code yX1_measure cX1_measure 5 none, Cond.methodLink RX1 29 Lib.Math.min.name, Cond.static Lib.Math.min.name, Cond.initialized "java/lang/Math", Cond.code Lib.Math.min.name Lib.Math.min.code 2 (some .int), Cond.fieldLink RX1 35 "PartSketch$Block" "left" "I", Cond.methodLink RX1 38 Lib.Math.max.name, Cond.static Lib.Math.max.name, Cond.code Lib.Math.max.name Lib.Math.max.code 2 (some .int)]
def wsL_law0_r18 : List Cond := [Cond.fieldLink RX1 41 "PartSketch$Block" "right" "I", Cond.fieldLink RX1 44 "PartSketch$Block" "low" "I", Cond.fieldLink RX1 47 "PartSketch$Block" "high" "I", Cond.fieldLink RX1 50 "PartSketch$Block" "bottom" "I", Cond.fieldLink RX1 53 "PartSketch$Block" "failing" "Z", Cond.methodLink RX1 23 yX0_placeOf, Cond.methodLink RX1 57 yX1_liesIn, Cond.instanceMethod yX1_liesIn, Cond.selects RX1 yX1_liesIn yX1_liesIn, Cond.code yX1_liesIn cX1_liesIn 2 (some .boolean), Cond.methodLink RX4 123 yX2_base, Cond.methodLink RL 116 yX5_setBase, Cond.instanceMethod yX5_setBase, Cond.selects RX5 yX5_setBase yX5_setBase, Cond.code yX5_setBase cX5_setBase 4 (some .boolean), Cond.fieldLink RX5 117 "PartSketchModel" "isBase" "Z", Cond.fieldLink RX5 121 "PartSketchModel" "baseOne" "I", Cond.fieldLink RX5 124 "PartSketchModel" "baseOther" "I", Cond.fieldLink RX5 141 "PartSketchModel" "height" "I", Cond.methodLink RX5 144 yX5_builds, Cond.instanceMethod yX5_builds, Cond.selects RX5 yX5_builds yX5_builds, Cond.code yX5_builds cX5_builds 3 none, Cond.fieldLink RX5 134 "PartSketchModel" "pockets" "I"]
def wsL_law0_r19 : List Cond := [Cond.methodLink RX5 127 yX5_sides, Cond.instanceMethod yX5_sides, Cond.selects RX5 yX5_sides yX5_sides, Cond.code yX5_sides cX5_sides 8 none, Cond.methodLink RX5 131 yX5_isFlat, Cond.instanceMethod yX5_isFlat, Cond.selects RX5 yX5_isFlat yX5_isFlat, Cond.code yX5_isFlat cX5_isFlat 2 (some .boolean), Cond.methodLink RX5 137 yX5_lies, Cond.instanceMethod yX5_lies, Cond.selects RX5 yX5_lies yX5_lies, Cond.code yX5_lies cX5_lies 3 (some .boolean), Cond.methodLink RL 117 yL_pocket, Cond.static yL_pocket, Cond.codeWith yL_pocket cL_pocket 7 (some .int) [(0, 14, 17, 21), (0, 14, 21, 13), (0, 14, 25, 15)], Cond.methodLink RL 54 yX4_pocket, Cond.instanceMethod yX4_pocket, Cond.selects RX4 yX4_pocket yX4_pocket, Cond.code yX4_pocket cX4_pocket 5 (some .int), Cond.fieldLink RX4 135 "PartSketch$Body" "hasBase" "Z", Cond.fieldLink RX4 140 "PartSketch$Body" "pockets" "I", Cond.methodLink RX4 132 yX4_requirePocket, Cond.instanceMethod yX4_requirePocket, Cond.selects RX4 yX4_requirePocket yX4_requirePocket]
def wsL_law0_r20 : List Cond := [Cond.code yX4_requirePocket cX4_requirePocket 2 none, Cond.methodLink RX4 145 yX2_addPocket, Cond.instanceMethod yX2_addPocket, Cond.selects RX2 yX2_addPocket yX2_addPocket, Cond.code yX2_addPocket cX2_addPocket 6 (some .int), Cond.methodLink RL 119 yX5_pocket, Cond.instanceMethod yX5_pocket, Cond.selects RX5 yX5_pocket yX5_pocket, Cond.code yX5_pocket cX5_pocket 5 (some .int), Cond.methodLink RL 120 yL_fails, Cond.static yL_fails, Cond.codeWith yL_fails cL_fails 4 (some .int) [(0, 16, 19, 21)], Cond.methodLink RL 57 yX4_fails, Cond.instanceMethod yX4_fails, Cond.selects RX4 yX4_fails yX4_fails, Cond.code yX4_fails cX4_fails 2 (some .boolean), Cond.methodLink RX4 148 yX2_pocketAt, Cond.methodLink RL 122 yX5_fails, Cond.instanceMethod yX5_fails, Cond.selects RX5 yX5_fails yX5_fails, Cond.code yX5_fails cX5_fails 2 (some .boolean), Cond.methodLink RL 123 yX4_volume, Cond.instanceMethod yX4_volume, Cond.selects RX4 yX4_volume yX4_volume]
def wsL_law0_r21 : List Cond := [Cond.code yX4_volume cX4_volume 1 (some .int), Cond.methodLink RX4 152 yX2_wholeCells, Cond.instanceMethod yX2_wholeCells, Cond.selects RX2 yX2_wholeCells yX2_wholeCells, Cond.code yX2_wholeCells cX2_wholeCells 1 (some .int), Cond.fieldLink RX2 52 "PartSketch$Block" "failing" "Z", Cond.methodLink RX2 55 yX1_cells, Cond.instanceMethod yX1_cells, Cond.selects RX1 yX1_cells yX1_cells, Cond.code yX1_cells cX1_cells 1 (some .int), Cond.methodLink RX4 156 yX2_takenCells, Cond.instanceMethod yX2_takenCells, Cond.selects RX2 yX2_takenCells yX2_takenCells, Cond.code yX2_takenCells cX2_takenCells 6 (some .int), Cond.methodLink RX2 59 yX2_gatherSides, Cond.instanceMethod yX2_gatherSides, Cond.selects RX2 yX2_gatherSides yX2_gatherSides, Cond.code yX2_gatherSides cX2_gatherSides 4 (some .int), Cond.fieldLink RX2 72 "PartSketch$Block" "left" "I", Cond.fieldLink RX2 79 "PartSketch$Block" "low" "I", Cond.fieldLink RX2 82 "PartSketch$Block" "right" "I", Cond.fieldLink RX2 85 "PartSketch$Block" "high" "I", Cond.methodLink RX2 75 yX2_insertSorted, Cond.static yX2_insertSorted]
def wsL_law0_r22 : List Cond := [Cond.code yX2_insertSorted cX2_insertSorted 4 none, Cond.methodLink RX2 62 yX2_layersTaken, Cond.instanceMethod yX2_layersTaken, Cond.selects RX2 yX2_layersTaken yX2_layersTaken, Cond.code yX2_layersTaken cX2_layersTaken 7 (some .int), Cond.methodLink RX2 88 yX1_covers, Cond.instanceMethod yX1_covers, Cond.selects RX1 yX1_covers yX1_covers, Cond.code yX1_covers cX1_covers 3 (some .boolean), Cond.methodLink RX2 92 yX1_layers, Cond.instanceMethod yX1_layers, Cond.selects RX1 yX1_layers yX1_layers, Cond.code yX1_layers cX1_layers 1 (some .long), Cond.methodLink RX2 66 yJ13_bitCount_95d88, Cond.static yJ13_bitCount_95d88, Cond.initialized RJ13, Cond.code yJ13_bitCount_95d88 cJ13_bitCount_95d88 2 (some .int), Cond.constantLong RJ13 314 (6148914691236517205), Cond.constantLong RJ13 316 (3689348814741910323), Cond.constantLong RJ13 318 (1085102592571150095), Cond.methodLink RL 126 yX5_volume, Cond.instanceMethod yX5_volume, Cond.selects RX5 yX5_volume yX5_volume, Cond.code yX5_volume cX5_volume 1 (some .int)]
def wsL_law0_r23 : List Cond := [Cond.methodLink RX5 154 yX5_whole, Cond.instanceMethod yX5_whole, Cond.selects RX5 yX5_whole yX5_whole, Cond.code yX5_whole cX5_whole 1 (some .int), Cond.methodLink RX5 158 yX5_out, Cond.instanceMethod yX5_out, Cond.selects RX5 yX5_out yX5_out, Cond.code yX5_out cX5_out 7 (some .int), Cond.methodLink RX5 147 yX5_sorts, Cond.static yX5_sorts, Cond.code yX5_sorts cX5_sorts 5 none, Cond.methodLink RX5 151 yX5_isOut, Cond.instanceMethod yX5_isOut, Cond.selects RX5 yX5_isOut yX5_isOut, Cond.code yX5_isOut cX5_isOut 7 (some .boolean), Cond.methodLink RL 127 yX4_price, Cond.instanceMethod yX4_price, Cond.selects RX4 yX4_price yX4_price, Cond.code yX4_price cX4_price 1 (some .int), Cond.methodLink RX4 159 yX2_differentDepths, Cond.instanceMethod yX2_differentDepths, Cond.selects RX2 yX2_differentDepths yX2_differentDepths, Cond.code yX2_differentDepths cX2_differentDepths 5 (some .int), Cond.methodLink RL 130 yX5_price]
def wsL_law0_r24 : List Cond := [Cond.instanceMethod yX5_price, Cond.selects RX5 yX5_price yX5_price, Cond.code yX5_price cX5_price 5 (some .int)]
def wsL_law0 : List Cond := (wsL_law0_r1 ++ (wsL_law0_r2 ++ (wsL_law0_r3 ++ (wsL_law0_r4 ++ (wsL_law0_r5 ++ (wsL_law0_r6 ++ (wsL_law0_r7 ++ (wsL_law0_r8 ++ (wsL_law0_r9 ++ (wsL_law0_r10 ++ (wsL_law0_r11 ++ (wsL_law0_r12 ++ (wsL_law0_r13 ++ (wsL_law0_r14 ++ (wsL_law0_r15 ++ (wsL_law0_r16 ++ (wsL_law0_r17 ++ (wsL_law0_r18 ++ (wsL_law0_r19 ++ (wsL_law0_r20 ++ (wsL_law0_r21 ++ (wsL_law0_r22 ++ (wsL_law0_r23 ++ wsL_law0_r24))))))))))))))))))))))) ++ wsX40 ++ wsX50 ++ wsX00 ++ wsX30 ++ wsX20 ++ wsX10 ++ ([] : List Cond)
def wsL_law : List Cond := wsL_law0 ++ (vx_atS RX4 45 "java/lang/IllegalStateException" ["java/lang/RuntimeException", "java/lang/Exception"]).filter goodWord ++ (vx_atS RX4 59 "java/lang/IllegalArgumentException" ["java/lang/RuntimeException", "java/lang/Exception"]).filter goodWord ++ (vx_atS RX4 172 "java/lang/IndexOutOfBoundsException" ["java/lang/RuntimeException", "java/lang/Exception"]).filter goodWord
abbrev vwCl : List vw_C := [(RX0, TX0, 4), (RX1, TX1, 10), (RX2, TX2, 5), (RX3, TX3, 7), (RX4, TX4, 6), (RX5, TX5, 29)]
end
section
set_option maxRecDepth 20000 in
theorem ggX0_pinFreeGroups_X0_join : GoodIn wsX0_pinFreeGroups wsX0_join := goodIn_r _ [8, 2, 9, 10, 11, 12, 13] (by decide +kernel) (by decide +kernel)
set_option maxRecDepth 20000 in
theorem gX0_pinFreeGroups_X0_join : GoodIn wsX0_pinFreeGroups (wsV RX0 25 RX0 yX0_join wsX0_join) := goodIn_app (goodIn_of _ (by decide +kernel)) ggX0_pinFreeGroups_X0_join
set_option maxRecDepth 20000 in
theorem ggX1_measure_X0_placeOf : GoodIn wsX1_measure wsX0_placeOf := goodIn_r _ [22, 23, 39, 40, 41, 42] (by decide +kernel) (by decide +kernel)
set_option maxRecDepth 20000 in
theorem gX1_measure_X0_placeOf : GoodIn wsX1_measure (wsV RX1 23 RX0 yX0_placeOf wsX0_placeOf) := goodIn_app (goodIn_of _ (by decide +kernel)) ggX1_measure_X0_placeOf
set_option maxRecDepth 20000 in
theorem ggX1_measure_X1_liesIn : GoodIn wsX1_measure wsX1_liesIn := goodIn_r _ [28, 7, 11, 12, 13, 29, 30, 31, 32, 33, 34, 35, 36, 37, 38] (by decide +kernel) (by decide +kernel)
set_option maxRecDepth 20000 in
theorem gX1_measure_X1_liesIn : GoodIn wsX1_measure (wsV RX1 57 RX1 yX1_liesIn wsX1_liesIn) := goodIn_app (goodIn_of _ (by decide +kernel)) ggX1_measure_X1_liesIn
set_option maxRecDepth 20000 in
theorem ggX2_init_X1_init : GoodIn wsX2_init wsX1_init := goodIn_r _ [12, 13, 2, 3] (by decide +kernel) (by decide +kernel)
set_option maxRecDepth 20000 in
theorem gX2_init_X1_init_n24 : GoodIn wsX2_init (wsX1_init) := ggX2_init_X1_init
set_option maxRecDepth 20000 in
theorem ggX2_layBase_X2_base : GoodIn wsX2_layBase wsX2_base := goodIn_r _ [6, 7, 17, 18, 19, 20, 21] (by decide +kernel) (by decide +kernel)
set_option maxRecDepth 20000 in
theorem gX2_layBase_X2_base : GoodIn wsX2_layBase (wsV RX2 25 RX2 yX2_base wsX2_base) := goodIn_app (goodIn_of _ (by decide +kernel)) ggX2_layBase_X2_base
set_option maxRecDepth 20000 in
theorem ggX2_layBase_X1_put : GoodIn wsX2_layBase wsX1_put := goodIn_r _ [12, 13, 14, 15, 16, 22, 23, 24, 25, 26, 27, 28, 29, 30, 31] (by decide +kernel) (by decide +kernel)
set_option maxRecDepth 20000 in
theorem gX2_layBase_X1_put : GoodIn wsX2_layBase (wsV RX2 29 RX1 yX1_put wsX1_put) := goodIn_app (goodIn_of _ (by decide +kernel)) ggX2_layBase_X1_put
set_option maxRecDepth 20000 in
theorem ggX2_addPocket_X2_pocketAt : GoodIn wsX2_addPocket wsX2_pocketAt := goodIn_r _ [6, 7, 17, 18, 19, 20, 21] (by decide +kernel) (by decide +kernel)
set_option maxRecDepth 20000 in
theorem gX2_addPocket_X2_pocketAt : GoodIn wsX2_addPocket (wsV RX2 41 RX2 yX2_pocketAt wsX2_pocketAt) := goodIn_app (goodIn_of _ (by decide +kernel)) ggX2_addPocket_X2_pocketAt
set_option maxRecDepth 20000 in
theorem ggX2_addPocket_X1_put : GoodIn wsX2_addPocket wsX1_put := goodIn_r _ [12, 13, 14, 15, 16, 22, 23, 24, 25, 26, 27, 28, 29, 30, 31] (by decide +kernel) (by decide +kernel)
set_option maxRecDepth 20000 in
theorem gX2_addPocket_X1_put : GoodIn wsX2_addPocket (wsV RX2 29 RX1 yX1_put wsX1_put) := goodIn_app (goodIn_of _ (by decide +kernel)) ggX2_addPocket_X1_put
set_option maxRecDepth 20000 in
theorem ggX2_measure_X2_pocketAt : GoodIn wsX2_measure wsX2_pocketAt := goodIn_r _ [8, 9, 46, 47, 48, 49, 50] (by decide +kernel) (by decide +kernel)
set_option maxRecDepth 20000 in
theorem gX2_measure_X2_pocketAt : GoodIn wsX2_measure (wsV RX2 41 RX2 yX2_pocketAt wsX2_pocketAt) := goodIn_app (goodIn_of _ (by decide +kernel)) ggX2_measure_X2_pocketAt
set_option maxRecDepth 20000 in
theorem ggX2_measure_X2_base : GoodIn wsX2_measure wsX2_base := goodIn_r _ [13, 9, 46, 47, 48, 49, 50] (by decide +kernel) (by decide +kernel)
set_option maxRecDepth 20000 in
theorem gX2_measure_X2_base : GoodIn wsX2_measure (wsV RX2 25 RX2 yX2_base wsX2_base) := goodIn_app (goodIn_of _ (by decide +kernel)) ggX2_measure_X2_base
set_option maxRecDepth 20000 in
theorem ggX2_measure_X1_measure : GoodIn wsX2_measure wsX1_measure := goodIn_r _ [18, 19, 20, 21, 22, 23, 24, 25, 26, 27, 28, 29, 30, 31, 32, 33, 34, 35, 36, 37, 38, 39, 40, 41, 42, 43, 44, 17, 45, 51, 52, 53, 54, 55, 56, 57, 58, 59, 60, 61, 62, 63, 64] (by decide +kernel) (by decide +kernel)
set_option maxRecDepth 20000 in
theorem gX2_measure_X1_measure : GoodIn wsX2_measure (wsV RX2 48 RX1 yX1_measure wsX1_measure) := goodIn_app (goodIn_of _ (by decide +kernel)) ggX2_measure_X1_measure
set_option maxRecDepth 20000 in
theorem ggX2_wholeCells_X2_base : GoodIn wsX2_wholeCells wsX2_base := goodIn_r _ [7, 8, 19, 20, 21, 22, 23] (by decide +kernel) (by decide +kernel)
set_option maxRecDepth 20000 in
theorem gX2_wholeCells_X2_base : GoodIn wsX2_wholeCells (wsV RX2 25 RX2 yX2_base wsX2_base) := goodIn_app (goodIn_of _ (by decide +kernel)) ggX2_wholeCells_X2_base
set_option maxRecDepth 20000 in
theorem ggX2_wholeCells_X1_cells : GoodIn wsX2_wholeCells wsX1_cells := goodIn_r _ [13, 14, 15, 16, 17, 18, 24, 25, 26, 27, 28, 29, 30, 31, 32, 33] (by decide +kernel) (by decide +kernel)
set_option maxRecDepth 20000 in
theorem gX2_wholeCells_X1_cells : GoodIn wsX2_wholeCells (wsV RX2 55 RX1 yX1_cells wsX1_cells) := goodIn_app (goodIn_of _ (by decide +kernel)) ggX2_wholeCells_X1_cells
set_option maxRecDepth 20000 in
theorem ggX2_takenCells_X2_gatherSides : GoodIn wsX2_takenCells wsX2_gatherSides := goodIn_r _ [7, 8, 9, 1, 10, 2, 11, 12, 13, 14, 15, 16, 6, 17, 18, 19, 20, 21, 48, 49, 50, 51, 52, 53, 54, 55, 56, 57, 58, 59, 60, 61, 62] (by decide +kernel) (by decide +kernel)
set_option maxRecDepth 20000 in
theorem gX2_takenCells_X2_gatherSides : GoodIn wsX2_takenCells (wsV RX2 59 RX2 yX2_gatherSides wsX2_gatherSides) := goodIn_app (goodIn_of _ (by decide +kernel)) ggX2_takenCells_X2_gatherSides
set_option maxRecDepth 20000 in
theorem ggX2_takenCells_X2_layersTaken : GoodIn wsX2_takenCells wsX2_layersTaken := goodIn_r _ [25, 8, 9, 14, 15, 16, 6, 17, 18, 26, 27, 28, 29, 30, 31, 32, 33, 34, 35, 36, 37, 38, 39, 40, 41, 42, 43, 44, 45, 46, 47, 48, 49, 50, 51, 52, 53, 54, 55, 56, 57, 58, 59, 60, 61, 62] (by decide +kernel) (by decide +kernel)
set_option maxRecDepth 20000 in
theorem gX2_takenCells_X2_layersTaken : GoodIn wsX2_takenCells (wsV RX2 62 RX2 yX2_layersTaken wsX2_layersTaken) := goodIn_app (goodIn_of _ (by decide +kernel)) ggX2_takenCells_X2_layersTaken
set_option maxRecDepth 20000 in
theorem ggX2_differentDepths_X2_pocketAt : GoodIn wsX2_differentDepths wsX2_pocketAt := goodIn_r _ [8, 9, 17, 18, 19, 20, 21] (by decide +kernel) (by decide +kernel)
set_option maxRecDepth 20000 in
theorem gX2_differentDepths_X2_pocketAt : GoodIn wsX2_differentDepths (wsV RX2 41 RX2 yX2_pocketAt wsX2_pocketAt) := goodIn_app (goodIn_of _ (by decide +kernel)) ggX2_differentDepths_X2_pocketAt
set_option maxRecDepth 20000 in
theorem ggX2_differentDepths_J13_bitCount_95d88 : GoodIn wsX2_differentDepths wsJ13_bitCount_95d88 := goodIn_r _ [13, 14, 15, 16] (by decide +kernel) (by decide +kernel)
set_option maxRecDepth 20000 in
theorem gX2_differentDepths_J13_bitCount_95d88 : GoodIn wsX2_differentDepths (va_wsS RX2 66 yJ13_bitCount_95d88 wsJ13_bitCount_95d88) := goodIn_app (goodIn_of _ (by decide +kernel)) ggX2_differentDepths_J13_bitCount_95d88
set_option maxRecDepth 20000 in
theorem ggX2_gatherSides_X2_pocketAt : GoodIn wsX2_gatherSides wsX2_pocketAt := goodIn_r _ [13, 14, 18, 19, 20, 21, 22] (by decide +kernel) (by decide +kernel)
set_option maxRecDepth 20000 in
theorem gX2_gatherSides_X2_pocketAt : GoodIn wsX2_gatherSides (wsV RX2 41 RX2 yX2_pocketAt wsX2_pocketAt) := goodIn_app (goodIn_of _ (by decide +kernel)) ggX2_gatherSides_X2_pocketAt
set_option maxRecDepth 20000 in
theorem ggX2_gatherSides_X2_insertSorted : GoodIn wsX2_gatherSides wsX2_insertSorted := goodIn_r _ [17] (by decide +kernel) (by decide +kernel)
set_option maxRecDepth 20000 in
theorem gX2_gatherSides_X2_insertSorted : GoodIn wsX2_gatherSides (va_wsS RX2 75 yX2_insertSorted wsX2_insertSorted) := goodIn_app (goodIn_of _ (by decide +kernel)) ggX2_gatherSides_X2_insertSorted
set_option maxRecDepth 20000 in
theorem ggX2_layersTaken_X2_pocketAt : GoodIn wsX2_layersTaken wsX2_pocketAt := goodIn_r _ [7, 8, 31, 32, 33, 34, 35] (by decide +kernel) (by decide +kernel)
set_option maxRecDepth 20000 in
theorem gX2_layersTaken_X2_pocketAt : GoodIn wsX2_layersTaken (wsV RX2 41 RX2 yX2_pocketAt wsX2_pocketAt) := goodIn_app (goodIn_of _ (by decide +kernel)) ggX2_layersTaken_X2_pocketAt
set_option maxRecDepth 20000 in
theorem ggX2_layersTaken_X1_covers : GoodIn wsX2_layersTaken wsX1_covers := goodIn_r _ [13, 14, 15, 16, 17, 36, 37, 38, 39, 40, 41, 42, 43, 44, 45] (by decide +kernel) (by decide +kernel)
set_option maxRecDepth 20000 in
theorem gX2_layersTaken_X1_covers : GoodIn wsX2_layersTaken (wsV RX2 88 RX1 yX1_covers wsX1_covers) := goodIn_app (goodIn_of _ (by decide +kernel)) ggX2_layersTaken_X1_covers
set_option maxRecDepth 20000 in
theorem ggX2_layersTaken_X1_layers : GoodIn wsX2_layersTaken wsX1_layers := goodIn_r _ [21, 22, 23, 36, 37, 38, 39, 40, 41, 42, 43, 44, 45] (by decide +kernel) (by decide +kernel)
set_option maxRecDepth 20000 in
theorem gX2_layersTaken_X1_layers : GoodIn wsX2_layersTaken (wsV RX2 92 RX1 yX1_layers wsX1_layers) := goodIn_app (goodIn_of _ (by decide +kernel)) ggX2_layersTaken_X1_layers
set_option maxRecDepth 20000 in
theorem ggX2_layersTaken_J13_bitCount_95d88 : GoodIn wsX2_layersTaken wsJ13_bitCount_95d88 := goodIn_r _ [27, 28, 29, 30] (by decide +kernel) (by decide +kernel)
set_option maxRecDepth 20000 in
theorem gX2_layersTaken_J13_bitCount_95d88 : GoodIn wsX2_layersTaken (va_wsS RX2 66 yJ13_bitCount_95d88 wsJ13_bitCount_95d88) := goodIn_app (goodIn_of _ (by decide +kernel)) ggX2_layersTaken_J13_bitCount_95d88
set_option maxRecDepth 20000 in
theorem ggX3_drop_X3_closeGap : GoodIn wsX3_drop wsX3_closeGap := goodIn_r _ [11, 6, 12, 13, 14, 15, 16, 17, 18, 19, 20, 21, 22] (by decide +kernel) (by decide +kernel)
set_option maxRecDepth 20000 in
theorem gX3_drop_X3_closeGap : GoodIn wsX3_drop (wsV RX3 36 RX3 yX3_closeGap wsX3_closeGap) := goodIn_app (goodIn_of _ (by decide +kernel)) ggX3_drop_X3_closeGap
end
section
theorem dX0_init_0 : decode cX0_init 0 = .ok (.aload_n 0, 1) := by decide +kernel
theorem dX0_init_1 : decode cX0_init 1 = .ok (.invokespecial 3, 3) := by decide +kernel
theorem dX0_init_4 : decode cX0_init 4 = .ok (.aload_n 0, 1) := by decide +kernel
theorem dX0_init_5 : decode cX0_init 5 = .ok (.bipush 16, 2) := by decide +kernel
theorem dX0_init_7 : decode cX0_init 7 = .ok (.newarray .int, 2) := by decide +kernel
theorem dX0_init_9 : decode cX0_init 9 = .ok (.putfield 9, 3) := by decide +kernel
theorem dX0_init_12 : decode cX0_init 12 = .ok (.aload_n 0, 1) := by decide +kernel
theorem dX0_init_13 : decode cX0_init 13 = .ok (.bipush 17, 2) := by decide +kernel
theorem dX0_init_15 : decode cX0_init 15 = .ok (.newarray .int, 2) := by decide +kernel
theorem dX0_init_17 : decode cX0_init 17 = .ok (.putfield 15, 3) := by decide +kernel
theorem dX0_init_20 : decode cX0_init 20 = .ok (.aload_n 0, 1) := by decide +kernel
theorem dX0_init_21 : decode cX0_init 21 = .ok (.bipush 17, 2) := by decide +kernel
theorem dX0_init_23 : decode cX0_init 23 = .ok (.newarray .int, 2) := by decide +kernel
theorem dX0_init_25 : decode cX0_init 25 = .ok (.putfield 18, 3) := by decide +kernel
theorem dX0_init_28 : decode cX0_init 28 = .ok (.return_, 1) := by decide +kernel
theorem dX0_loosen_0 : decode cX0_loosen 0 = .ok (.iconst 0, 1) := by decide +kernel
theorem dX0_loosen_1 : decode cX0_loosen 1 = .ok (.istore_n 1, 1) := by decide +kernel
theorem dX0_loosen_2 : decode cX0_loosen 2 = .ok (.iload_n 1, 1) := by decide +kernel
theorem dX0_loosen_3 : decode cX0_loosen 3 = .ok (.aload_n 0, 1) := by decide +kernel
theorem dX0_loosen_4 : decode cX0_loosen 4 = .ok (.getfield 15, 3) := by decide +kernel
theorem dX0_loosen_7 : decode cX0_loosen 7 = .ok (.arraylength, 1) := by decide +kernel
theorem dX0_loosen_8 : decode cX0_loosen 8 = .ok (.if_icmp .ge 23, 3) := by decide +kernel
theorem dX0_loosen_11 : decode cX0_loosen 11 = .ok (.aload_n 0, 1) := by decide +kernel
theorem dX0_loosen_12 : decode cX0_loosen 12 = .ok (.getfield 15, 3) := by decide +kernel
theorem dX0_loosen_15 : decode cX0_loosen 15 = .ok (.iload_n 1, 1) := by decide +kernel
theorem dX0_loosen_16 : decode cX0_loosen 16 = .ok (.iload_n 1, 1) := by decide +kernel
theorem dX0_loosen_17 : decode cX0_loosen 17 = .ok (.iastore, 1) := by decide +kernel
theorem dX0_loosen_18 : decode cX0_loosen 18 = .ok (.aload_n 0, 1) := by decide +kernel
theorem dX0_loosen_19 : decode cX0_loosen 19 = .ok (.getfield 18, 3) := by decide +kernel
theorem dX0_loosen_22 : decode cX0_loosen 22 = .ok (.iload_n 1, 1) := by decide +kernel
theorem dX0_loosen_23 : decode cX0_loosen 23 = .ok (.iconst 0, 1) := by decide +kernel
theorem dX0_loosen_24 : decode cX0_loosen 24 = .ok (.iastore, 1) := by decide +kernel
theorem dX0_loosen_25 : decode cX0_loosen 25 = .ok (.iinc 1 1, 3) := by decide +kernel
theorem dX0_loosen_28 : decode cX0_loosen 28 = .ok (.goto (-26), 3) := by decide +kernel
theorem dX0_loosen_31 : decode cX0_loosen 31 = .ok (.return_, 1) := by decide +kernel
theorem dX0_judge_0 : decode cX0_judge 0 = .ok (.aload_n 0, 1) := by decide +kernel
theorem dX0_judge_1 : decode cX0_judge 1 = .ok (.getfield 15, 3) := by decide +kernel
theorem dX0_judge_4 : decode cX0_judge 4 = .ok (.iload_n 1, 1) := by decide +kernel
theorem dX0_judge_5 : decode cX0_judge 5 = .ok (.iaload, 1) := by decide +kernel
theorem dX0_judge_6 : decode cX0_judge 6 = .ok (.aload_n 0, 1) := by decide +kernel
theorem dX0_judge_7 : decode cX0_judge 7 = .ok (.getfield 15, 3) := by decide +kernel
theorem dX0_judge_10 : decode cX0_judge 10 = .ok (.iload_n 2, 1) := by decide +kernel
theorem dX0_judge_11 : decode cX0_judge 11 = .ok (.iaload, 1) := by decide +kernel
theorem dX0_judge_12 : decode cX0_judge 12 = .ok (.if_icmp .eq 5, 3) := by decide +kernel
theorem dX0_judge_15 : decode cX0_judge 15 = .ok (.iconst 0, 1) := by decide +kernel
theorem dX0_judge_16 : decode cX0_judge 16 = .ok (.ireturn, 1) := by decide +kernel
theorem dX0_judge_17 : decode cX0_judge 17 = .ok (.aload_n 0, 1) := by decide +kernel
theorem dX0_judge_18 : decode cX0_judge 18 = .ok (.getfield 18, 3) := by decide +kernel
theorem dX0_judge_21 : decode cX0_judge 21 = .ok (.iload_n 2, 1) := by decide +kernel
theorem dX0_judge_22 : decode cX0_judge 22 = .ok (.iaload, 1) := by decide +kernel
theorem dX0_judge_23 : decode cX0_judge 23 = .ok (.aload_n 0, 1) := by decide +kernel
theorem dX0_judge_24 : decode cX0_judge 24 = .ok (.getfield 18, 3) := by decide +kernel
theorem dX0_judge_27 : decode cX0_judge 27 = .ok (.iload_n 1, 1) := by decide +kernel
theorem dX0_judge_28 : decode cX0_judge 28 = .ok (.iaload, 1) := by decide +kernel
theorem dX0_judge_29 : decode cX0_judge 29 = .ok (.isub, 1) := by decide +kernel
theorem dX0_judge_30 : decode cX0_judge 30 = .ok (.iload_n 3, 1) := by decide +kernel
theorem dX0_judge_31 : decode cX0_judge 31 = .ok (.if_icmp .ne 7, 3) := by decide +kernel
theorem dX0_judge_34 : decode cX0_judge 34 = .ok (.iconst 1, 1) := by decide +kernel
theorem dX0_judge_35 : decode cX0_judge 35 = .ok (.goto 4, 3) := by decide +kernel
theorem dX0_judge_38 : decode cX0_judge 38 = .ok (.iconst 2, 1) := by decide +kernel
theorem dX0_judge_39 : decode cX0_judge 39 = .ok (.ireturn, 1) := by decide +kernel
theorem dX0_join_0 : decode cX0_join 0 = .ok (.aload_n 0, 1) := by decide +kernel
theorem dX0_join_1 : decode cX0_join 1 = .ok (.getfield 15, 3) := by decide +kernel
theorem dX0_join_4 : decode cX0_join 4 = .ok (.iload_n 1, 1) := by decide +kernel
theorem dX0_join_5 : decode cX0_join 5 = .ok (.iaload, 1) := by decide +kernel
theorem dX0_join_6 : decode cX0_join 6 = .ok (.istore 4, 2) := by decide +kernel
theorem dX0_join_8 : decode cX0_join 8 = .ok (.aload_n 0, 1) := by decide +kernel
theorem dX0_join_9 : decode cX0_join 9 = .ok (.getfield 15, 3) := by decide +kernel
theorem dX0_join_12 : decode cX0_join 12 = .ok (.iload_n 2, 1) := by decide +kernel
theorem dX0_join_13 : decode cX0_join 13 = .ok (.iaload, 1) := by decide +kernel
theorem dX0_join_14 : decode cX0_join 14 = .ok (.istore 5, 2) := by decide +kernel
theorem dX0_join_16 : decode cX0_join 16 = .ok (.aload_n 0, 1) := by decide +kernel
theorem dX0_join_17 : decode cX0_join 17 = .ok (.getfield 18, 3) := by decide +kernel
theorem dX0_join_20 : decode cX0_join 20 = .ok (.iload_n 1, 1) := by decide +kernel
theorem dX0_join_21 : decode cX0_join 21 = .ok (.iaload, 1) := by decide +kernel
theorem dX0_join_22 : decode cX0_join 22 = .ok (.iload_n 3, 1) := by decide +kernel
theorem dX0_join_23 : decode cX0_join 23 = .ok (.iadd, 1) := by decide +kernel
theorem dX0_join_24 : decode cX0_join 24 = .ok (.aload_n 0, 1) := by decide +kernel
theorem dX0_join_25 : decode cX0_join 25 = .ok (.getfield 18, 3) := by decide +kernel
theorem dX0_join_28 : decode cX0_join 28 = .ok (.iload_n 2, 1) := by decide +kernel
theorem dX0_join_29 : decode cX0_join 29 = .ok (.iaload, 1) := by decide +kernel
theorem dX0_join_30 : decode cX0_join 30 = .ok (.isub, 1) := by decide +kernel
theorem dX0_join_31 : decode cX0_join 31 = .ok (.istore 6, 2) := by decide +kernel
theorem dX0_join_33 : decode cX0_join 33 = .ok (.iconst 0, 1) := by decide +kernel
theorem dX0_join_34 : decode cX0_join 34 = .ok (.istore 7, 2) := by decide +kernel
theorem dX0_join_36 : decode cX0_join 36 = .ok (.iload 7, 2) := by decide +kernel
theorem dX0_join_38 : decode cX0_join 38 = .ok (.aload_n 0, 1) := by decide +kernel
theorem dX0_join_39 : decode cX0_join 39 = .ok (.getfield 15, 3) := by decide +kernel
theorem dX0_join_42 : decode cX0_join 42 = .ok (.arraylength, 1) := by decide +kernel
theorem dX0_join_43 : decode cX0_join 43 = .ok (.if_icmp .ge 42, 3) := by decide +kernel
theorem dX0_join_46 : decode cX0_join 46 = .ok (.aload_n 0, 1) := by decide +kernel
theorem dX0_join_47 : decode cX0_join 47 = .ok (.getfield 15, 3) := by decide +kernel
theorem dX0_join_50 : decode cX0_join 50 = .ok (.iload 7, 2) := by decide +kernel
theorem dX0_join_52 : decode cX0_join 52 = .ok (.iaload, 1) := by decide +kernel
theorem dX0_join_53 : decode cX0_join 53 = .ok (.iload 5, 2) := by decide +kernel
theorem dX0_join_55 : decode cX0_join 55 = .ok (.if_icmp .ne 24, 3) := by decide +kernel
theorem dX0_join_58 : decode cX0_join 58 = .ok (.aload_n 0, 1) := by decide +kernel
theorem dX0_join_59 : decode cX0_join 59 = .ok (.getfield 15, 3) := by decide +kernel
theorem dX0_join_62 : decode cX0_join 62 = .ok (.iload 7, 2) := by decide +kernel
theorem dX0_join_64 : decode cX0_join 64 = .ok (.iload 4, 2) := by decide +kernel
theorem dX0_join_66 : decode cX0_join 66 = .ok (.iastore, 1) := by decide +kernel
theorem dX0_join_67 : decode cX0_join 67 = .ok (.aload_n 0, 1) := by decide +kernel
theorem dX0_join_68 : decode cX0_join 68 = .ok (.getfield 18, 3) := by decide +kernel
theorem dX0_join_71 : decode cX0_join 71 = .ok (.iload 7, 2) := by decide +kernel
theorem dX0_join_73 : decode cX0_join 73 = .ok (.dup2, 1) := by decide +kernel
theorem dX0_join_74 : decode cX0_join 74 = .ok (.iaload, 1) := by decide +kernel
theorem dX0_join_75 : decode cX0_join 75 = .ok (.iload 6, 2) := by decide +kernel
theorem dX0_join_77 : decode cX0_join 77 = .ok (.iadd, 1) := by decide +kernel
theorem dX0_join_78 : decode cX0_join 78 = .ok (.iastore, 1) := by decide +kernel
theorem dX0_join_79 : decode cX0_join 79 = .ok (.iinc 7 1, 3) := by decide +kernel
theorem dX0_join_82 : decode cX0_join 82 = .ok (.goto (-46), 3) := by decide +kernel
theorem dX0_join_85 : decode cX0_join 85 = .ok (.return_, 1) := by decide +kernel
theorem dX0_pinFreeGroups_0 : decode cX0_pinFreeGroups 0 = .ok (.aload_n 0, 1) := by decide +kernel
theorem dX0_pinFreeGroups_1 : decode cX0_pinFreeGroups 1 = .ok (.iconst 0, 1) := by decide +kernel
theorem dX0_pinFreeGroups_2 : decode cX0_pinFreeGroups 2 = .ok (.putfield 21, 3) := by decide +kernel
theorem dX0_pinFreeGroups_5 : decode cX0_pinFreeGroups 5 = .ok (.iconst 0, 1) := by decide +kernel
theorem dX0_pinFreeGroups_6 : decode cX0_pinFreeGroups 6 = .ok (.istore_n 2, 1) := by decide +kernel
theorem dX0_pinFreeGroups_7 : decode cX0_pinFreeGroups 7 = .ok (.iload_n 2, 1) := by decide +kernel
theorem dX0_pinFreeGroups_8 : decode cX0_pinFreeGroups 8 = .ok (.iload_n 1, 1) := by decide +kernel
theorem dX0_pinFreeGroups_9 : decode cX0_pinFreeGroups 9 = .ok (.if_icmp .ge 48, 3) := by decide +kernel
theorem dX0_pinFreeGroups_12 : decode cX0_pinFreeGroups 12 = .ok (.aload_n 0, 1) := by decide +kernel
theorem dX0_pinFreeGroups_13 : decode cX0_pinFreeGroups 13 = .ok (.getfield 15, 3) := by decide +kernel
theorem dX0_pinFreeGroups_16 : decode cX0_pinFreeGroups 16 = .ok (.iload_n 2, 1) := by decide +kernel
theorem dX0_pinFreeGroups_17 : decode cX0_pinFreeGroups 17 = .ok (.iaload, 1) := by decide +kernel
theorem dX0_pinFreeGroups_18 : decode cX0_pinFreeGroups 18 = .ok (.aload_n 0, 1) := by decide +kernel
theorem dX0_pinFreeGroups_19 : decode cX0_pinFreeGroups 19 = .ok (.getfield 15, 3) := by decide +kernel
theorem dX0_pinFreeGroups_22 : decode cX0_pinFreeGroups 22 = .ok (.bipush 16, 2) := by decide +kernel
theorem dX0_pinFreeGroups_24 : decode cX0_pinFreeGroups 24 = .ok (.iaload, 1) := by decide +kernel
theorem dX0_pinFreeGroups_25 : decode cX0_pinFreeGroups 25 = .ok (.if_icmp .eq 26, 3) := by decide +kernel
theorem dX0_pinFreeGroups_28 : decode cX0_pinFreeGroups 28 = .ok (.aload_n 0, 1) := by decide +kernel
theorem dX0_pinFreeGroups_29 : decode cX0_pinFreeGroups 29 = .ok (.dup, 1) := by decide +kernel
theorem dX0_pinFreeGroups_30 : decode cX0_pinFreeGroups 30 = .ok (.getfield 21, 3) := by decide +kernel
theorem dX0_pinFreeGroups_33 : decode cX0_pinFreeGroups 33 = .ok (.iconst 1, 1) := by decide +kernel
theorem dX0_pinFreeGroups_34 : decode cX0_pinFreeGroups 34 = .ok (.iadd, 1) := by decide +kernel
theorem dX0_pinFreeGroups_35 : decode cX0_pinFreeGroups 35 = .ok (.putfield 21, 3) := by decide +kernel
theorem dX0_pinFreeGroups_38 : decode cX0_pinFreeGroups 38 = .ok (.aload_n 0, 1) := by decide +kernel
theorem dX0_pinFreeGroups_39 : decode cX0_pinFreeGroups 39 = .ok (.bipush 16, 2) := by decide +kernel
theorem dX0_pinFreeGroups_41 : decode cX0_pinFreeGroups 41 = .ok (.iload_n 2, 1) := by decide +kernel
theorem dX0_pinFreeGroups_42 : decode cX0_pinFreeGroups 42 = .ok (.aload_n 0, 1) := by decide +kernel
theorem dX0_pinFreeGroups_43 : decode cX0_pinFreeGroups 43 = .ok (.getfield 9, 3) := by decide +kernel
theorem dX0_pinFreeGroups_46 : decode cX0_pinFreeGroups 46 = .ok (.iload_n 2, 1) := by decide +kernel
theorem dX0_pinFreeGroups_47 : decode cX0_pinFreeGroups 47 = .ok (.iaload, 1) := by decide +kernel
theorem dX0_pinFreeGroups_48 : decode cX0_pinFreeGroups 48 = .ok (.invokevirtual 25, 3) := by decide +kernel
theorem dX0_pinFreeGroups_51 : decode cX0_pinFreeGroups 51 = .ok (.iinc 2 1, 3) := by decide +kernel
theorem dX0_pinFreeGroups_54 : decode cX0_pinFreeGroups 54 = .ok (.goto (-47), 3) := by decide +kernel
theorem dX0_pinFreeGroups_57 : decode cX0_pinFreeGroups 57 = .ok (.return_, 1) := by decide +kernel
theorem dX0_placeOf_0 : decode cX0_placeOf 0 = .ok (.aload_n 0, 1) := by decide +kernel
theorem dX0_placeOf_1 : decode cX0_placeOf 1 = .ok (.getfield 18, 3) := by decide +kernel
theorem dX0_placeOf_4 : decode cX0_placeOf 4 = .ok (.iload_n 1, 1) := by decide +kernel
theorem dX0_placeOf_5 : decode cX0_placeOf 5 = .ok (.iaload, 1) := by decide +kernel
theorem dX0_placeOf_6 : decode cX0_placeOf 6 = .ok (.aload_n 0, 1) := by decide +kernel
theorem dX0_placeOf_7 : decode cX0_placeOf 7 = .ok (.getfield 18, 3) := by decide +kernel
theorem dX0_placeOf_10 : decode cX0_placeOf 10 = .ok (.bipush 16, 2) := by decide +kernel
theorem dX0_placeOf_12 : decode cX0_placeOf 12 = .ok (.iaload, 1) := by decide +kernel
theorem dX0_placeOf_13 : decode cX0_placeOf 13 = .ok (.isub, 1) := by decide +kernel
theorem dX0_placeOf_14 : decode cX0_placeOf 14 = .ok (.ireturn, 1) := by decide +kernel
end
section
theorem dX1_init_0 : decode cX1_init 0 = .ok (.aload_n 0, 1) := by decide +kernel
theorem dX1_init_1 : decode cX1_init 1 = .ok (.invokespecial 1, 3) := by decide +kernel
theorem dX1_init_4 : decode cX1_init 4 = .ok (.return_, 1) := by decide +kernel
theorem dX1_put_0 : decode cX1_put 0 = .ok (.aload_n 0, 1) := by decide +kernel
theorem dX1_put_1 : decode cX1_put 1 = .ok (.iload_n 1, 1) := by decide +kernel
theorem dX1_put_2 : decode cX1_put 2 = .ok (.putfield 7, 3) := by decide +kernel
theorem dX1_put_5 : decode cX1_put 5 = .ok (.aload_n 0, 1) := by decide +kernel
theorem dX1_put_6 : decode cX1_put 6 = .ok (.iload_n 2, 1) := by decide +kernel
theorem dX1_put_7 : decode cX1_put 7 = .ok (.putfield 13, 3) := by decide +kernel
theorem dX1_put_10 : decode cX1_put 10 = .ok (.aload_n 0, 1) := by decide +kernel
theorem dX1_put_11 : decode cX1_put 11 = .ok (.iload_n 3, 1) := by decide +kernel
theorem dX1_put_12 : decode cX1_put 12 = .ok (.putfield 16, 3) := by decide +kernel
theorem dX1_put_15 : decode cX1_put 15 = .ok (.aload_n 0, 1) := by decide +kernel
theorem dX1_put_16 : decode cX1_put 16 = .ok (.aload 4, 2) := by decide +kernel
theorem dX1_put_18 : decode cX1_put 18 = .ok (.putfield 19, 3) := by decide +kernel
theorem dX1_put_21 : decode cX1_put 21 = .ok (.return_, 1) := by decide +kernel
theorem dX1_measure_0 : decode cX1_measure 0 = .ok (.aload_n 0, 1) := by decide +kernel
theorem dX1_measure_1 : decode cX1_measure 1 = .ok (.aload_n 1, 1) := by decide +kernel
theorem dX1_measure_2 : decode cX1_measure 2 = .ok (.aload_n 0, 1) := by decide +kernel
theorem dX1_measure_3 : decode cX1_measure 3 = .ok (.getfield 7, 3) := by decide +kernel
theorem dX1_measure_6 : decode cX1_measure 6 = .ok (.invokevirtual 23, 3) := by decide +kernel
theorem dX1_measure_9 : decode cX1_measure 9 = .ok (.aload_n 1, 1) := by decide +kernel
theorem dX1_measure_10 : decode cX1_measure 10 = .ok (.aload_n 0, 1) := by decide +kernel
theorem dX1_measure_11 : decode cX1_measure 11 = .ok (.getfield 13, 3) := by decide +kernel
theorem dX1_measure_14 : decode cX1_measure 14 = .ok (.invokevirtual 23, 3) := by decide +kernel
theorem dX1_measure_17 : decode cX1_measure 17 = .ok (.invokestatic 29, 3) := by decide +kernel
theorem dX1_measure_20 : decode cX1_measure 20 = .ok (.putfield 35, 3) := by decide +kernel
theorem dX1_measure_23 : decode cX1_measure 23 = .ok (.aload_n 0, 1) := by decide +kernel
theorem dX1_measure_24 : decode cX1_measure 24 = .ok (.aload_n 1, 1) := by decide +kernel
theorem dX1_measure_25 : decode cX1_measure 25 = .ok (.aload_n 0, 1) := by decide +kernel
theorem dX1_measure_26 : decode cX1_measure 26 = .ok (.getfield 7, 3) := by decide +kernel
theorem dX1_measure_29 : decode cX1_measure 29 = .ok (.invokevirtual 23, 3) := by decide +kernel
theorem dX1_measure_32 : decode cX1_measure 32 = .ok (.aload_n 1, 1) := by decide +kernel
theorem dX1_measure_33 : decode cX1_measure 33 = .ok (.aload_n 0, 1) := by decide +kernel
theorem dX1_measure_34 : decode cX1_measure 34 = .ok (.getfield 13, 3) := by decide +kernel
theorem dX1_measure_37 : decode cX1_measure 37 = .ok (.invokevirtual 23, 3) := by decide +kernel
theorem dX1_measure_40 : decode cX1_measure 40 = .ok (.invokestatic 38, 3) := by decide +kernel
theorem dX1_measure_43 : decode cX1_measure 43 = .ok (.putfield 41, 3) := by decide +kernel
theorem dX1_measure_46 : decode cX1_measure 46 = .ok (.aload_n 0, 1) := by decide +kernel
theorem dX1_measure_47 : decode cX1_measure 47 = .ok (.aload_n 2, 1) := by decide +kernel
theorem dX1_measure_48 : decode cX1_measure 48 = .ok (.aload_n 0, 1) := by decide +kernel
theorem dX1_measure_49 : decode cX1_measure 49 = .ok (.getfield 7, 3) := by decide +kernel
theorem dX1_measure_52 : decode cX1_measure 52 = .ok (.invokevirtual 23, 3) := by decide +kernel
theorem dX1_measure_55 : decode cX1_measure 55 = .ok (.aload_n 2, 1) := by decide +kernel
theorem dX1_measure_56 : decode cX1_measure 56 = .ok (.aload_n 0, 1) := by decide +kernel
theorem dX1_measure_57 : decode cX1_measure 57 = .ok (.getfield 13, 3) := by decide +kernel
theorem dX1_measure_60 : decode cX1_measure 60 = .ok (.invokevirtual 23, 3) := by decide +kernel
theorem dX1_measure_63 : decode cX1_measure 63 = .ok (.invokestatic 29, 3) := by decide +kernel
theorem dX1_measure_66 : decode cX1_measure 66 = .ok (.putfield 44, 3) := by decide +kernel
theorem dX1_measure_69 : decode cX1_measure 69 = .ok (.aload_n 0, 1) := by decide +kernel
theorem dX1_measure_70 : decode cX1_measure 70 = .ok (.aload_n 2, 1) := by decide +kernel
theorem dX1_measure_71 : decode cX1_measure 71 = .ok (.aload_n 0, 1) := by decide +kernel
theorem dX1_measure_72 : decode cX1_measure 72 = .ok (.getfield 7, 3) := by decide +kernel
theorem dX1_measure_75 : decode cX1_measure 75 = .ok (.invokevirtual 23, 3) := by decide +kernel
theorem dX1_measure_78 : decode cX1_measure 78 = .ok (.aload_n 2, 1) := by decide +kernel
theorem dX1_measure_79 : decode cX1_measure 79 = .ok (.aload_n 0, 1) := by decide +kernel
theorem dX1_measure_80 : decode cX1_measure 80 = .ok (.getfield 13, 3) := by decide +kernel
theorem dX1_measure_83 : decode cX1_measure 83 = .ok (.invokevirtual 23, 3) := by decide +kernel
theorem dX1_measure_86 : decode cX1_measure 86 = .ok (.invokestatic 38, 3) := by decide +kernel
theorem dX1_measure_89 : decode cX1_measure 89 = .ok (.putfield 47, 3) := by decide +kernel
theorem dX1_measure_92 : decode cX1_measure 92 = .ok (.aload_n 0, 1) := by decide +kernel
theorem dX1_measure_93 : decode cX1_measure 93 = .ok (.getfield 35, 3) := by decide +kernel
theorem dX1_measure_96 : decode cX1_measure 96 = .ok (.aload_n 0, 1) := by decide +kernel
theorem dX1_measure_97 : decode cX1_measure 97 = .ok (.getfield 41, 3) := by decide +kernel
theorem dX1_measure_100 : decode cX1_measure 100 = .ok (.if_icmp .eq 14, 3) := by decide +kernel
theorem dX1_measure_103 : decode cX1_measure 103 = .ok (.aload_n 0, 1) := by decide +kernel
theorem dX1_measure_104 : decode cX1_measure 104 = .ok (.getfield 44, 3) := by decide +kernel
theorem dX1_measure_107 : decode cX1_measure 107 = .ok (.aload_n 0, 1) := by decide +kernel
theorem dX1_measure_108 : decode cX1_measure 108 = .ok (.getfield 47, 3) := by decide +kernel
theorem dX1_measure_111 : decode cX1_measure 111 = .ok (.if_icmp .ne 7, 3) := by decide +kernel
theorem dX1_measure_114 : decode cX1_measure 114 = .ok (.iconst 1, 1) := by decide +kernel
theorem dX1_measure_115 : decode cX1_measure 115 = .ok (.goto 4, 3) := by decide +kernel
theorem dX1_measure_118 : decode cX1_measure 118 = .ok (.iconst 0, 1) := by decide +kernel
theorem dX1_measure_119 : decode cX1_measure 119 = .ok (.istore 4, 2) := by decide +kernel
theorem dX1_measure_121 : decode cX1_measure 121 = .ok (.aload_n 0, 1) := by decide +kernel
theorem dX1_measure_122 : decode cX1_measure 122 = .ok (.getfield 19, 3) := by decide +kernel
theorem dX1_measure_125 : decode cX1_measure 125 = .ok (.ifnonnull 17, 3) := by decide +kernel
theorem dX1_measure_128 : decode cX1_measure 128 = .ok (.aload_n 0, 1) := by decide +kernel
theorem dX1_measure_129 : decode cX1_measure 129 = .ok (.iconst 0, 1) := by decide +kernel
theorem dX1_measure_130 : decode cX1_measure 130 = .ok (.putfield 50, 3) := by decide +kernel
theorem dX1_measure_133 : decode cX1_measure 133 = .ok (.aload_n 0, 1) := by decide +kernel
theorem dX1_measure_134 : decode cX1_measure 134 = .ok (.iload 4, 2) := by decide +kernel
theorem dX1_measure_136 : decode cX1_measure 136 = .ok (.putfield 53, 3) := by decide +kernel
theorem dX1_measure_139 : decode cX1_measure 139 = .ok (.goto 62, 3) := by decide +kernel
theorem dX1_measure_142 : decode cX1_measure 142 = .ok (.aload_n 0, 1) := by decide +kernel
theorem dX1_measure_143 : decode cX1_measure 143 = .ok (.aload_n 0, 1) := by decide +kernel
theorem dX1_measure_144 : decode cX1_measure 144 = .ok (.getfield 19, 3) := by decide +kernel
theorem dX1_measure_147 : decode cX1_measure 147 = .ok (.getfield 50, 3) := by decide +kernel
theorem dX1_measure_150 : decode cX1_measure 150 = .ok (.aload_n 0, 1) := by decide +kernel
theorem dX1_measure_151 : decode cX1_measure 151 = .ok (.getfield 16, 3) := by decide +kernel
theorem dX1_measure_154 : decode cX1_measure 154 = .ok (.iadd, 1) := by decide +kernel
theorem dX1_measure_155 : decode cX1_measure 155 = .ok (.putfield 50, 3) := by decide +kernel
theorem dX1_measure_158 : decode cX1_measure 158 = .ok (.aload_n 0, 1) := by decide +kernel
theorem dX1_measure_159 : decode cX1_measure 159 = .ok (.iload 4, 2) := by decide +kernel
theorem dX1_measure_161 : decode cX1_measure 161 = .ok (.ifCond .ne 32, 3) := by decide +kernel
theorem dX1_measure_164 : decode cX1_measure 164 = .ok (.aload_n 0, 1) := by decide +kernel
theorem dX1_measure_165 : decode cX1_measure 165 = .ok (.getfield 19, 3) := by decide +kernel
theorem dX1_measure_168 : decode cX1_measure 168 = .ok (.getfield 53, 3) := by decide +kernel
theorem dX1_measure_171 : decode cX1_measure 171 = .ok (.ifCond .ne 22, 3) := by decide +kernel
theorem dX1_measure_174 : decode cX1_measure 174 = .ok (.aload_n 0, 1) := by decide +kernel
theorem dX1_measure_175 : decode cX1_measure 175 = .ok (.aload_n 0, 1) := by decide +kernel
theorem dX1_measure_176 : decode cX1_measure 176 = .ok (.getfield 19, 3) := by decide +kernel
theorem dX1_measure_179 : decode cX1_measure 179 = .ok (.invokevirtual 57, 3) := by decide +kernel
theorem dX1_measure_182 : decode cX1_measure 182 = .ok (.ifCond .eq 11, 3) := by decide +kernel
theorem dX1_measure_185 : decode cX1_measure 185 = .ok (.aload_n 0, 1) := by decide +kernel
theorem dX1_measure_186 : decode cX1_measure 186 = .ok (.getfield 50, 3) := by decide +kernel
theorem dX1_measure_189 : decode cX1_measure 189 = .ok (.iload_n 3, 1) := by decide +kernel
theorem dX1_measure_190 : decode cX1_measure 190 = .ok (.if_icmp .lt 7, 3) := by decide +kernel
theorem dX1_measure_193 : decode cX1_measure 193 = .ok (.iconst 1, 1) := by decide +kernel
theorem dX1_measure_194 : decode cX1_measure 194 = .ok (.goto 4, 3) := by decide +kernel
theorem dX1_measure_197 : decode cX1_measure 197 = .ok (.iconst 0, 1) := by decide +kernel
theorem dX1_measure_198 : decode cX1_measure 198 = .ok (.putfield 53, 3) := by decide +kernel
theorem dX1_measure_201 : decode cX1_measure 201 = .ok (.return_, 1) := by decide +kernel
theorem dX1_cells_0 : decode cX1_cells 0 = .ok (.aload_n 0, 1) := by decide +kernel
theorem dX1_cells_1 : decode cX1_cells 1 = .ok (.getfield 41, 3) := by decide +kernel
theorem dX1_cells_4 : decode cX1_cells 4 = .ok (.aload_n 0, 1) := by decide +kernel
theorem dX1_cells_5 : decode cX1_cells 5 = .ok (.getfield 35, 3) := by decide +kernel
theorem dX1_cells_8 : decode cX1_cells 8 = .ok (.isub, 1) := by decide +kernel
theorem dX1_cells_9 : decode cX1_cells 9 = .ok (.aload_n 0, 1) := by decide +kernel
theorem dX1_cells_10 : decode cX1_cells 10 = .ok (.getfield 47, 3) := by decide +kernel
theorem dX1_cells_13 : decode cX1_cells 13 = .ok (.aload_n 0, 1) := by decide +kernel
theorem dX1_cells_14 : decode cX1_cells 14 = .ok (.getfield 44, 3) := by decide +kernel
theorem dX1_cells_17 : decode cX1_cells 17 = .ok (.isub, 1) := by decide +kernel
theorem dX1_cells_18 : decode cX1_cells 18 = .ok (.imul, 1) := by decide +kernel
theorem dX1_cells_19 : decode cX1_cells 19 = .ok (.aload_n 0, 1) := by decide +kernel
theorem dX1_cells_20 : decode cX1_cells 20 = .ok (.getfield 16, 3) := by decide +kernel
theorem dX1_cells_23 : decode cX1_cells 23 = .ok (.imul, 1) := by decide +kernel
theorem dX1_cells_24 : decode cX1_cells 24 = .ok (.ireturn, 1) := by decide +kernel
theorem dX1_covers_0 : decode cX1_covers 0 = .ok (.aload_n 0, 1) := by decide +kernel
theorem dX1_covers_1 : decode cX1_covers 1 = .ok (.getfield 35, 3) := by decide +kernel
theorem dX1_covers_4 : decode cX1_covers 4 = .ok (.iload_n 1, 1) := by decide +kernel
theorem dX1_covers_5 : decode cX1_covers 5 = .ok (.if_icmp .gt 31, 3) := by decide +kernel
theorem dX1_covers_8 : decode cX1_covers 8 = .ok (.iload_n 1, 1) := by decide +kernel
theorem dX1_covers_9 : decode cX1_covers 9 = .ok (.aload_n 0, 1) := by decide +kernel
theorem dX1_covers_10 : decode cX1_covers 10 = .ok (.getfield 41, 3) := by decide +kernel
theorem dX1_covers_13 : decode cX1_covers 13 = .ok (.if_icmp .ge 23, 3) := by decide +kernel
theorem dX1_covers_16 : decode cX1_covers 16 = .ok (.aload_n 0, 1) := by decide +kernel
theorem dX1_covers_17 : decode cX1_covers 17 = .ok (.getfield 44, 3) := by decide +kernel
theorem dX1_covers_20 : decode cX1_covers 20 = .ok (.iload_n 2, 1) := by decide +kernel
theorem dX1_covers_21 : decode cX1_covers 21 = .ok (.if_icmp .gt 15, 3) := by decide +kernel
theorem dX1_covers_24 : decode cX1_covers 24 = .ok (.iload_n 2, 1) := by decide +kernel
theorem dX1_covers_25 : decode cX1_covers 25 = .ok (.aload_n 0, 1) := by decide +kernel
theorem dX1_covers_26 : decode cX1_covers 26 = .ok (.getfield 47, 3) := by decide +kernel
theorem dX1_covers_29 : decode cX1_covers 29 = .ok (.if_icmp .ge 7, 3) := by decide +kernel
theorem dX1_covers_32 : decode cX1_covers 32 = .ok (.iconst 1, 1) := by decide +kernel
theorem dX1_covers_33 : decode cX1_covers 33 = .ok (.goto 4, 3) := by decide +kernel
theorem dX1_covers_36 : decode cX1_covers 36 = .ok (.iconst 0, 1) := by decide +kernel
theorem dX1_covers_37 : decode cX1_covers 37 = .ok (.ireturn, 1) := by decide +kernel
theorem dX1_layers_0 : decode cX1_layers 0 = .ok (.lconst 1, 1) := by decide +kernel
theorem dX1_layers_1 : decode cX1_layers 1 = .ok (.aload_n 0, 1) := by decide +kernel
theorem dX1_layers_2 : decode cX1_layers 2 = .ok (.getfield 16, 3) := by decide +kernel
theorem dX1_layers_5 : decode cX1_layers 5 = .ok (.lshl, 1) := by decide +kernel
theorem dX1_layers_6 : decode cX1_layers 6 = .ok (.lconst 1, 1) := by decide +kernel
theorem dX1_layers_7 : decode cX1_layers 7 = .ok (.lsub, 1) := by decide +kernel
theorem dX1_layers_8 : decode cX1_layers 8 = .ok (.aload_n 0, 1) := by decide +kernel
theorem dX1_layers_9 : decode cX1_layers 9 = .ok (.getfield 50, 3) := by decide +kernel
theorem dX1_layers_12 : decode cX1_layers 12 = .ok (.aload_n 0, 1) := by decide +kernel
theorem dX1_layers_13 : decode cX1_layers 13 = .ok (.getfield 16, 3) := by decide +kernel
theorem dX1_layers_16 : decode cX1_layers 16 = .ok (.isub, 1) := by decide +kernel
theorem dX1_layers_17 : decode cX1_layers 17 = .ok (.lshl, 1) := by decide +kernel
theorem dX1_layers_18 : decode cX1_layers 18 = .ok (.lreturn, 1) := by decide +kernel
theorem dX1_liesIn_0 : decode cX1_liesIn 0 = .ok (.aload_n 0, 1) := by decide +kernel
theorem dX1_liesIn_1 : decode cX1_liesIn 1 = .ok (.getfield 35, 3) := by decide +kernel
theorem dX1_liesIn_4 : decode cX1_liesIn 4 = .ok (.aload_n 1, 1) := by decide +kernel
theorem dX1_liesIn_5 : decode cX1_liesIn 5 = .ok (.getfield 35, 3) := by decide +kernel
theorem dX1_liesIn_8 : decode cX1_liesIn 8 = .ok (.if_icmp .lt 40, 3) := by decide +kernel
theorem dX1_liesIn_11 : decode cX1_liesIn 11 = .ok (.aload_n 0, 1) := by decide +kernel
theorem dX1_liesIn_12 : decode cX1_liesIn 12 = .ok (.getfield 41, 3) := by decide +kernel
theorem dX1_liesIn_15 : decode cX1_liesIn 15 = .ok (.aload_n 1, 1) := by decide +kernel
theorem dX1_liesIn_16 : decode cX1_liesIn 16 = .ok (.getfield 41, 3) := by decide +kernel
theorem dX1_liesIn_19 : decode cX1_liesIn 19 = .ok (.if_icmp .gt 29, 3) := by decide +kernel
theorem dX1_liesIn_22 : decode cX1_liesIn 22 = .ok (.aload_n 0, 1) := by decide +kernel
theorem dX1_liesIn_23 : decode cX1_liesIn 23 = .ok (.getfield 44, 3) := by decide +kernel
theorem dX1_liesIn_26 : decode cX1_liesIn 26 = .ok (.aload_n 1, 1) := by decide +kernel
theorem dX1_liesIn_27 : decode cX1_liesIn 27 = .ok (.getfield 44, 3) := by decide +kernel
theorem dX1_liesIn_30 : decode cX1_liesIn 30 = .ok (.if_icmp .lt 18, 3) := by decide +kernel
theorem dX1_liesIn_33 : decode cX1_liesIn 33 = .ok (.aload_n 0, 1) := by decide +kernel
theorem dX1_liesIn_34 : decode cX1_liesIn 34 = .ok (.getfield 47, 3) := by decide +kernel
theorem dX1_liesIn_37 : decode cX1_liesIn 37 = .ok (.aload_n 1, 1) := by decide +kernel
theorem dX1_liesIn_38 : decode cX1_liesIn 38 = .ok (.getfield 47, 3) := by decide +kernel
theorem dX1_liesIn_41 : decode cX1_liesIn 41 = .ok (.if_icmp .gt 7, 3) := by decide +kernel
theorem dX1_liesIn_44 : decode cX1_liesIn 44 = .ok (.iconst 1, 1) := by decide +kernel
theorem dX1_liesIn_45 : decode cX1_liesIn 45 = .ok (.goto 4, 3) := by decide +kernel
theorem dX1_liesIn_48 : decode cX1_liesIn 48 = .ok (.iconst 0, 1) := by decide +kernel
theorem dX1_liesIn_49 : decode cX1_liesIn 49 = .ok (.ireturn, 1) := by decide +kernel
theorem dX2_init_0 : decode cX2_init 0 = .ok (.aload_n 0, 1) := by decide +kernel
theorem dX2_init_1 : decode cX2_init 1 = .ok (.invokespecial 3, 3) := by decide +kernel
theorem dX2_init_4 : decode cX2_init 4 = .ok (.aload_n 0, 1) := by decide +kernel
theorem dX2_init_5 : decode cX2_init 5 = .ok (.bipush 9, 2) := by decide +kernel
theorem dX2_init_7 : decode cX2_init 7 = .ok (.anewarray 9, 3) := by decide +kernel
theorem dX2_init_10 : decode cX2_init 10 = .ok (.putfield 11, 3) := by decide +kernel
theorem dX2_init_13 : decode cX2_init 13 = .ok (.aload_n 0, 1) := by decide +kernel
theorem dX2_init_14 : decode cX2_init 14 = .ok (.bipush 16, 2) := by decide +kernel
theorem dX2_init_16 : decode cX2_init 16 = .ok (.newarray .int, 2) := by decide +kernel
theorem dX2_init_18 : decode cX2_init 18 = .ok (.putfield 17, 3) := by decide +kernel
theorem dX2_init_21 : decode cX2_init 21 = .ok (.aload_n 0, 1) := by decide +kernel
theorem dX2_init_22 : decode cX2_init 22 = .ok (.bipush 16, 2) := by decide +kernel
theorem dX2_init_24 : decode cX2_init 24 = .ok (.newarray .int, 2) := by decide +kernel
theorem dX2_init_26 : decode cX2_init 26 = .ok (.putfield 21, 3) := by decide +kernel
theorem dX2_init_29 : decode cX2_init 29 = .ok (.iconst 0, 1) := by decide +kernel
theorem dX2_init_30 : decode cX2_init 30 = .ok (.istore_n 1, 1) := by decide +kernel
theorem dX2_init_31 : decode cX2_init 31 = .ok (.iload_n 1, 1) := by decide +kernel
theorem dX2_init_32 : decode cX2_init 32 = .ok (.aload_n 0, 1) := by decide +kernel
theorem dX2_init_33 : decode cX2_init 33 = .ok (.getfield 11, 3) := by decide +kernel
theorem dX2_init_36 : decode cX2_init 36 = .ok (.arraylength, 1) := by decide +kernel
theorem dX2_init_37 : decode cX2_init 37 = .ok (.if_icmp .ge 22, 3) := by decide +kernel
theorem dX2_init_40 : decode cX2_init 40 = .ok (.aload_n 0, 1) := by decide +kernel
theorem dX2_init_41 : decode cX2_init 41 = .ok (.getfield 11, 3) := by decide +kernel
theorem dX2_init_44 : decode cX2_init 44 = .ok (.iload_n 1, 1) := by decide +kernel
theorem dX2_init_45 : decode cX2_init 45 = .ok (.new 9, 3) := by decide +kernel
theorem dX2_init_48 : decode cX2_init 48 = .ok (.dup, 1) := by decide +kernel
theorem dX2_init_49 : decode cX2_init 49 = .ok (.invokespecial 24, 3) := by decide +kernel
theorem dX2_init_52 : decode cX2_init 52 = .ok (.aastore, 1) := by decide +kernel
theorem dX2_init_53 : decode cX2_init 53 = .ok (.iinc 1 1, 3) := by decide +kernel
theorem dX2_init_56 : decode cX2_init 56 = .ok (.goto (-25), 3) := by decide +kernel
theorem dX2_init_59 : decode cX2_init 59 = .ok (.return_, 1) := by decide +kernel
theorem dX2_base_0 : decode cX2_base 0 = .ok (.aload_n 0, 1) := by decide +kernel
theorem dX2_base_1 : decode cX2_base 1 = .ok (.getfield 11, 3) := by decide +kernel
theorem dX2_base_4 : decode cX2_base 4 = .ok (.iconst 0, 1) := by decide +kernel
theorem dX2_base_5 : decode cX2_base 5 = .ok (.aaload, 1) := by decide +kernel
theorem dX2_base_6 : decode cX2_base 6 = .ok (.areturn, 1) := by decide +kernel
theorem dX2_pocketAt_0 : decode cX2_pocketAt 0 = .ok (.aload_n 0, 1) := by decide +kernel
theorem dX2_pocketAt_1 : decode cX2_pocketAt 1 = .ok (.getfield 11, 3) := by decide +kernel
theorem dX2_pocketAt_4 : decode cX2_pocketAt 4 = .ok (.iconst 1, 1) := by decide +kernel
theorem dX2_pocketAt_5 : decode cX2_pocketAt 5 = .ok (.iload_n 1, 1) := by decide +kernel
theorem dX2_pocketAt_6 : decode cX2_pocketAt 6 = .ok (.iadd, 1) := by decide +kernel
theorem dX2_pocketAt_7 : decode cX2_pocketAt 7 = .ok (.aaload, 1) := by decide +kernel
theorem dX2_pocketAt_8 : decode cX2_pocketAt 8 = .ok (.areturn, 1) := by decide +kernel
theorem dX2_layBase_0 : decode cX2_layBase 0 = .ok (.aload_n 0, 1) := by decide +kernel
theorem dX2_layBase_1 : decode cX2_layBase 1 = .ok (.invokevirtual 25, 3) := by decide +kernel
theorem dX2_layBase_4 : decode cX2_layBase 4 = .ok (.iload_n 1, 1) := by decide +kernel
theorem dX2_layBase_5 : decode cX2_layBase 5 = .ok (.iload_n 2, 1) := by decide +kernel
theorem dX2_layBase_6 : decode cX2_layBase 6 = .ok (.iload_n 3, 1) := by decide +kernel
theorem dX2_layBase_7 : decode cX2_layBase 7 = .ok (.aconst_null, 1) := by decide +kernel
theorem dX2_layBase_8 : decode cX2_layBase 8 = .ok (.invokevirtual 29, 3) := by decide +kernel
theorem dX2_layBase_11 : decode cX2_layBase 11 = .ok (.aload_n 0, 1) := by decide +kernel
theorem dX2_layBase_12 : decode cX2_layBase 12 = .ok (.iconst 1, 1) := by decide +kernel
theorem dX2_layBase_13 : decode cX2_layBase 13 = .ok (.putfield 33, 3) := by decide +kernel
theorem dX2_layBase_16 : decode cX2_layBase 16 = .ok (.return_, 1) := by decide +kernel
theorem dX2_addPocket_0 : decode cX2_addPocket 0 = .ok (.aload_n 0, 1) := by decide +kernel
theorem dX2_addPocket_1 : decode cX2_addPocket 1 = .ok (.getfield 37, 3) := by decide +kernel
theorem dX2_addPocket_4 : decode cX2_addPocket 4 = .ok (.istore 5, 2) := by decide +kernel
theorem dX2_addPocket_6 : decode cX2_addPocket 6 = .ok (.aload_n 0, 1) := by decide +kernel
theorem dX2_addPocket_7 : decode cX2_addPocket 7 = .ok (.iload 5, 2) := by decide +kernel
theorem dX2_addPocket_9 : decode cX2_addPocket 9 = .ok (.invokevirtual 41, 3) := by decide +kernel
theorem dX2_addPocket_12 : decode cX2_addPocket 12 = .ok (.iload_n 1, 1) := by decide +kernel
theorem dX2_addPocket_13 : decode cX2_addPocket 13 = .ok (.iload_n 2, 1) := by decide +kernel
theorem dX2_addPocket_14 : decode cX2_addPocket 14 = .ok (.iload_n 3, 1) := by decide +kernel
theorem dX2_addPocket_15 : decode cX2_addPocket 15 = .ok (.aload_n 0, 1) := by decide +kernel
theorem dX2_addPocket_16 : decode cX2_addPocket 16 = .ok (.iload 4, 2) := by decide +kernel
theorem dX2_addPocket_18 : decode cX2_addPocket 18 = .ok (.invokevirtual 41, 3) := by decide +kernel
theorem dX2_addPocket_21 : decode cX2_addPocket 21 = .ok (.invokevirtual 29, 3) := by decide +kernel
theorem dX2_addPocket_24 : decode cX2_addPocket 24 = .ok (.aload_n 0, 1) := by decide +kernel
theorem dX2_addPocket_25 : decode cX2_addPocket 25 = .ok (.dup, 1) := by decide +kernel
theorem dX2_addPocket_26 : decode cX2_addPocket 26 = .ok (.getfield 37, 3) := by decide +kernel
theorem dX2_addPocket_29 : decode cX2_addPocket 29 = .ok (.iconst 1, 1) := by decide +kernel
theorem dX2_addPocket_30 : decode cX2_addPocket 30 = .ok (.iadd, 1) := by decide +kernel
theorem dX2_addPocket_31 : decode cX2_addPocket 31 = .ok (.putfield 37, 3) := by decide +kernel
theorem dX2_addPocket_34 : decode cX2_addPocket 34 = .ok (.iload 5, 2) := by decide +kernel
theorem dX2_addPocket_36 : decode cX2_addPocket 36 = .ok (.ireturn, 1) := by decide +kernel
theorem dX2_measure_0 : decode cX2_measure 0 = .ok (.aload_n 0, 1) := by decide +kernel
theorem dX2_measure_1 : decode cX2_measure 1 = .ok (.getfield 33, 3) := by decide +kernel
theorem dX2_measure_4 : decode cX2_measure 4 = .ok (.ifCond .ne 4, 3) := by decide +kernel
theorem dX2_measure_7 : decode cX2_measure 7 = .ok (.return_, 1) := by decide +kernel
theorem dX2_measure_8 : decode cX2_measure 8 = .ok (.iconst (-1), 1) := by decide +kernel
theorem dX2_measure_9 : decode cX2_measure 9 = .ok (.istore_n 3, 1) := by decide +kernel
theorem dX2_measure_10 : decode cX2_measure 10 = .ok (.iload_n 3, 1) := by decide +kernel
theorem dX2_measure_11 : decode cX2_measure 11 = .ok (.aload_n 0, 1) := by decide +kernel
theorem dX2_measure_12 : decode cX2_measure 12 = .ok (.getfield 37, 3) := by decide +kernel
theorem dX2_measure_15 : decode cX2_measure 15 = .ok (.if_icmp .ge 26, 3) := by decide +kernel
theorem dX2_measure_18 : decode cX2_measure 18 = .ok (.aload_n 0, 1) := by decide +kernel
theorem dX2_measure_19 : decode cX2_measure 19 = .ok (.iload_n 3, 1) := by decide +kernel
theorem dX2_measure_20 : decode cX2_measure 20 = .ok (.invokevirtual 41, 3) := by decide +kernel
theorem dX2_measure_23 : decode cX2_measure 23 = .ok (.aload_n 1, 1) := by decide +kernel
theorem dX2_measure_24 : decode cX2_measure 24 = .ok (.aload_n 2, 1) := by decide +kernel
theorem dX2_measure_25 : decode cX2_measure 25 = .ok (.aload_n 0, 1) := by decide +kernel
theorem dX2_measure_26 : decode cX2_measure 26 = .ok (.invokevirtual 25, 3) := by decide +kernel
theorem dX2_measure_29 : decode cX2_measure 29 = .ok (.getfield 45, 3) := by decide +kernel
theorem dX2_measure_32 : decode cX2_measure 32 = .ok (.invokevirtual 48, 3) := by decide +kernel
theorem dX2_measure_35 : decode cX2_measure 35 = .ok (.iinc 3 1, 3) := by decide +kernel
theorem dX2_measure_38 : decode cX2_measure 38 = .ok (.goto (-28), 3) := by decide +kernel
theorem dX2_measure_41 : decode cX2_measure 41 = .ok (.return_, 1) := by decide +kernel
theorem dX2_wholeCells_0 : decode cX2_wholeCells 0 = .ok (.aload_n 0, 1) := by decide +kernel
theorem dX2_wholeCells_1 : decode cX2_wholeCells 1 = .ok (.getfield 33, 3) := by decide +kernel
theorem dX2_wholeCells_4 : decode cX2_wholeCells 4 = .ok (.ifCond .eq 23, 3) := by decide +kernel
theorem dX2_wholeCells_7 : decode cX2_wholeCells 7 = .ok (.aload_n 0, 1) := by decide +kernel
theorem dX2_wholeCells_8 : decode cX2_wholeCells 8 = .ok (.invokevirtual 25, 3) := by decide +kernel
theorem dX2_wholeCells_11 : decode cX2_wholeCells 11 = .ok (.getfield 52, 3) := by decide +kernel
theorem dX2_wholeCells_14 : decode cX2_wholeCells 14 = .ok (.ifCond .ne 13, 3) := by decide +kernel
theorem dX2_wholeCells_17 : decode cX2_wholeCells 17 = .ok (.aload_n 0, 1) := by decide +kernel
theorem dX2_wholeCells_18 : decode cX2_wholeCells 18 = .ok (.invokevirtual 25, 3) := by decide +kernel
theorem dX2_wholeCells_21 : decode cX2_wholeCells 21 = .ok (.invokevirtual 55, 3) := by decide +kernel
theorem dX2_wholeCells_24 : decode cX2_wholeCells 24 = .ok (.goto 4, 3) := by decide +kernel
theorem dX2_wholeCells_27 : decode cX2_wholeCells 27 = .ok (.iconst 0, 1) := by decide +kernel
theorem dX2_wholeCells_28 : decode cX2_wholeCells 28 = .ok (.ireturn, 1) := by decide +kernel
theorem dX2_takenCells_0 : decode cX2_takenCells 0 = .ok (.aload_n 0, 1) := by decide +kernel
theorem dX2_takenCells_1 : decode cX2_takenCells 1 = .ok (.invokevirtual 59, 3) := by decide +kernel
theorem dX2_takenCells_4 : decode cX2_takenCells 4 = .ok (.istore_n 1, 1) := by decide +kernel
theorem dX2_takenCells_5 : decode cX2_takenCells 5 = .ok (.iconst 0, 1) := by decide +kernel
theorem dX2_takenCells_6 : decode cX2_takenCells 6 = .ok (.istore_n 2, 1) := by decide +kernel
theorem dX2_takenCells_7 : decode cX2_takenCells 7 = .ok (.iconst 1, 1) := by decide +kernel
theorem dX2_takenCells_8 : decode cX2_takenCells 8 = .ok (.istore_n 3, 1) := by decide +kernel
theorem dX2_takenCells_9 : decode cX2_takenCells 9 = .ok (.iload_n 3, 1) := by decide +kernel
theorem dX2_takenCells_10 : decode cX2_takenCells 10 = .ok (.iload_n 1, 1) := by decide +kernel
theorem dX2_takenCells_11 : decode cX2_takenCells 11 = .ok (.if_icmp .ge 91, 3) := by decide +kernel
theorem dX2_takenCells_14 : decode cX2_takenCells 14 = .ok (.iconst 1, 1) := by decide +kernel
theorem dX2_takenCells_15 : decode cX2_takenCells 15 = .ok (.istore 4, 2) := by decide +kernel
theorem dX2_takenCells_17 : decode cX2_takenCells 17 = .ok (.iload 4, 2) := by decide +kernel
theorem dX2_takenCells_19 : decode cX2_takenCells 19 = .ok (.iload_n 1, 1) := by decide +kernel
theorem dX2_takenCells_20 : decode cX2_takenCells 20 = .ok (.if_icmp .ge 76, 3) := by decide +kernel
theorem dX2_takenCells_23 : decode cX2_takenCells 23 = .ok (.aload_n 0, 1) := by decide +kernel
theorem dX2_takenCells_24 : decode cX2_takenCells 24 = .ok (.getfield 17, 3) := by decide +kernel
theorem dX2_takenCells_27 : decode cX2_takenCells 27 = .ok (.iload_n 3, 1) := by decide +kernel
theorem dX2_takenCells_28 : decode cX2_takenCells 28 = .ok (.iaload, 1) := by decide +kernel
theorem dX2_takenCells_29 : decode cX2_takenCells 29 = .ok (.aload_n 0, 1) := by decide +kernel
theorem dX2_takenCells_30 : decode cX2_takenCells 30 = .ok (.getfield 17, 3) := by decide +kernel
theorem dX2_takenCells_33 : decode cX2_takenCells 33 = .ok (.iload_n 3, 1) := by decide +kernel
theorem dX2_takenCells_34 : decode cX2_takenCells 34 = .ok (.iconst 1, 1) := by decide +kernel
theorem dX2_takenCells_35 : decode cX2_takenCells 35 = .ok (.isub, 1) := by decide +kernel
theorem dX2_takenCells_36 : decode cX2_takenCells 36 = .ok (.iaload, 1) := by decide +kernel
theorem dX2_takenCells_37 : decode cX2_takenCells 37 = .ok (.isub, 1) := by decide +kernel
theorem dX2_takenCells_38 : decode cX2_takenCells 38 = .ok (.aload_n 0, 1) := by decide +kernel
theorem dX2_takenCells_39 : decode cX2_takenCells 39 = .ok (.getfield 21, 3) := by decide +kernel
theorem dX2_takenCells_42 : decode cX2_takenCells 42 = .ok (.iload 4, 2) := by decide +kernel
theorem dX2_takenCells_44 : decode cX2_takenCells 44 = .ok (.iaload, 1) := by decide +kernel
theorem dX2_takenCells_45 : decode cX2_takenCells 45 = .ok (.aload_n 0, 1) := by decide +kernel
theorem dX2_takenCells_46 : decode cX2_takenCells 46 = .ok (.getfield 21, 3) := by decide +kernel
theorem dX2_takenCells_49 : decode cX2_takenCells 49 = .ok (.iload 4, 2) := by decide +kernel
theorem dX2_takenCells_51 : decode cX2_takenCells 51 = .ok (.iconst 1, 1) := by decide +kernel
theorem dX2_takenCells_52 : decode cX2_takenCells 52 = .ok (.isub, 1) := by decide +kernel
theorem dX2_takenCells_53 : decode cX2_takenCells 53 = .ok (.iaload, 1) := by decide +kernel
theorem dX2_takenCells_54 : decode cX2_takenCells 54 = .ok (.isub, 1) := by decide +kernel
theorem dX2_takenCells_55 : decode cX2_takenCells 55 = .ok (.imul, 1) := by decide +kernel
theorem dX2_takenCells_56 : decode cX2_takenCells 56 = .ok (.istore 5, 2) := by decide +kernel
theorem dX2_takenCells_58 : decode cX2_takenCells 58 = .ok (.iload 5, 2) := by decide +kernel
theorem dX2_takenCells_60 : decode cX2_takenCells 60 = .ok (.ifCond .le 30, 3) := by decide +kernel
theorem dX2_takenCells_63 : decode cX2_takenCells 63 = .ok (.iload_n 2, 1) := by decide +kernel
theorem dX2_takenCells_64 : decode cX2_takenCells 64 = .ok (.iload 5, 2) := by decide +kernel
theorem dX2_takenCells_66 : decode cX2_takenCells 66 = .ok (.aload_n 0, 1) := by decide +kernel
theorem dX2_takenCells_67 : decode cX2_takenCells 67 = .ok (.aload_n 0, 1) := by decide +kernel
theorem dX2_takenCells_68 : decode cX2_takenCells 68 = .ok (.getfield 17, 3) := by decide +kernel
theorem dX2_takenCells_71 : decode cX2_takenCells 71 = .ok (.iload_n 3, 1) := by decide +kernel
theorem dX2_takenCells_72 : decode cX2_takenCells 72 = .ok (.iconst 1, 1) := by decide +kernel
theorem dX2_takenCells_73 : decode cX2_takenCells 73 = .ok (.isub, 1) := by decide +kernel
theorem dX2_takenCells_74 : decode cX2_takenCells 74 = .ok (.iaload, 1) := by decide +kernel
theorem dX2_takenCells_75 : decode cX2_takenCells 75 = .ok (.aload_n 0, 1) := by decide +kernel
theorem dX2_takenCells_76 : decode cX2_takenCells 76 = .ok (.getfield 21, 3) := by decide +kernel
theorem dX2_takenCells_79 : decode cX2_takenCells 79 = .ok (.iload 4, 2) := by decide +kernel
theorem dX2_takenCells_81 : decode cX2_takenCells 81 = .ok (.iconst 1, 1) := by decide +kernel
theorem dX2_takenCells_82 : decode cX2_takenCells 82 = .ok (.isub, 1) := by decide +kernel
theorem dX2_takenCells_83 : decode cX2_takenCells 83 = .ok (.iaload, 1) := by decide +kernel
theorem dX2_takenCells_84 : decode cX2_takenCells 84 = .ok (.invokevirtual 62, 3) := by decide +kernel
theorem dX2_takenCells_87 : decode cX2_takenCells 87 = .ok (.imul, 1) := by decide +kernel
theorem dX2_takenCells_88 : decode cX2_takenCells 88 = .ok (.iadd, 1) := by decide +kernel
theorem dX2_takenCells_89 : decode cX2_takenCells 89 = .ok (.istore_n 2, 1) := by decide +kernel
theorem dX2_takenCells_90 : decode cX2_takenCells 90 = .ok (.iinc 4 1, 3) := by decide +kernel
theorem dX2_takenCells_93 : decode cX2_takenCells 93 = .ok (.goto (-76), 3) := by decide +kernel
theorem dX2_takenCells_96 : decode cX2_takenCells 96 = .ok (.iinc 3 1, 3) := by decide +kernel
theorem dX2_takenCells_99 : decode cX2_takenCells 99 = .ok (.goto (-90), 3) := by decide +kernel
theorem dX2_takenCells_102 : decode cX2_takenCells 102 = .ok (.iload_n 2, 1) := by decide +kernel
theorem dX2_takenCells_103 : decode cX2_takenCells 103 = .ok (.ireturn, 1) := by decide +kernel
theorem dX2_differentDepths_0 : decode cX2_differentDepths 0 = .ok (.lconst 0, 1) := by decide +kernel
theorem dX2_differentDepths_1 : decode cX2_differentDepths 1 = .ok (.lstore_n 1, 1) := by decide +kernel
theorem dX2_differentDepths_2 : decode cX2_differentDepths 2 = .ok (.iconst 0, 1) := by decide +kernel
theorem dX2_differentDepths_3 : decode cX2_differentDepths 3 = .ok (.istore_n 3, 1) := by decide +kernel
theorem dX2_differentDepths_4 : decode cX2_differentDepths 4 = .ok (.iload_n 3, 1) := by decide +kernel
theorem dX2_differentDepths_5 : decode cX2_differentDepths 5 = .ok (.aload_n 0, 1) := by decide +kernel
theorem dX2_differentDepths_6 : decode cX2_differentDepths 6 = .ok (.getfield 37, 3) := by decide +kernel
theorem dX2_differentDepths_9 : decode cX2_differentDepths 9 = .ok (.if_icmp .ge 34, 3) := by decide +kernel
theorem dX2_differentDepths_12 : decode cX2_differentDepths 12 = .ok (.aload_n 0, 1) := by decide +kernel
theorem dX2_differentDepths_13 : decode cX2_differentDepths 13 = .ok (.iload_n 3, 1) := by decide +kernel
theorem dX2_differentDepths_14 : decode cX2_differentDepths 14 = .ok (.invokevirtual 41, 3) := by decide +kernel
theorem dX2_differentDepths_17 : decode cX2_differentDepths 17 = .ok (.astore 4, 2) := by decide +kernel
theorem dX2_differentDepths_19 : decode cX2_differentDepths 19 = .ok (.aload 4, 2) := by decide +kernel
theorem dX2_differentDepths_21 : decode cX2_differentDepths 21 = .ok (.getfield 52, 3) := by decide +kernel
theorem dX2_differentDepths_24 : decode cX2_differentDepths 24 = .ok (.ifCond .ne 13, 3) := by decide +kernel
theorem dX2_differentDepths_27 : decode cX2_differentDepths 27 = .ok (.lload_n 1, 1) := by decide +kernel
theorem dX2_differentDepths_28 : decode cX2_differentDepths 28 = .ok (.lconst 1, 1) := by decide +kernel
theorem dX2_differentDepths_29 : decode cX2_differentDepths 29 = .ok (.aload 4, 2) := by decide +kernel
theorem dX2_differentDepths_31 : decode cX2_differentDepths 31 = .ok (.getfield 45, 3) := by decide +kernel
theorem dX2_differentDepths_34 : decode cX2_differentDepths 34 = .ok (.lshl, 1) := by decide +kernel
theorem dX2_differentDepths_35 : decode cX2_differentDepths 35 = .ok (.lor, 1) := by decide +kernel
theorem dX2_differentDepths_36 : decode cX2_differentDepths 36 = .ok (.lstore_n 1, 1) := by decide +kernel
theorem dX2_differentDepths_37 : decode cX2_differentDepths 37 = .ok (.iinc 3 1, 3) := by decide +kernel
theorem dX2_differentDepths_40 : decode cX2_differentDepths 40 = .ok (.goto (-36), 3) := by decide +kernel
theorem dX2_differentDepths_43 : decode cX2_differentDepths 43 = .ok (.lload_n 1, 1) := by decide +kernel
theorem dX2_differentDepths_44 : decode cX2_differentDepths 44 = .ok (.invokestatic 66, 3) := by decide +kernel
theorem dX2_differentDepths_47 : decode cX2_differentDepths 47 = .ok (.ireturn, 1) := by decide +kernel
theorem dX2_gatherSides_0 : decode cX2_gatherSides 0 = .ok (.iconst 0, 1) := by decide +kernel
theorem dX2_gatherSides_1 : decode cX2_gatherSides 1 = .ok (.istore_n 1, 1) := by decide +kernel
theorem dX2_gatherSides_2 : decode cX2_gatherSides 2 = .ok (.iconst 0, 1) := by decide +kernel
theorem dX2_gatherSides_3 : decode cX2_gatherSides 3 = .ok (.istore_n 2, 1) := by decide +kernel
theorem dX2_gatherSides_4 : decode cX2_gatherSides 4 = .ok (.iload_n 2, 1) := by decide +kernel
theorem dX2_gatherSides_5 : decode cX2_gatherSides 5 = .ok (.aload_n 0, 1) := by decide +kernel
theorem dX2_gatherSides_6 : decode cX2_gatherSides 6 = .ok (.getfield 37, 3) := by decide +kernel
theorem dX2_gatherSides_9 : decode cX2_gatherSides 9 = .ok (.if_icmp .ge 77, 3) := by decide +kernel
theorem dX2_gatherSides_12 : decode cX2_gatherSides 12 = .ok (.aload_n 0, 1) := by decide +kernel
theorem dX2_gatherSides_13 : decode cX2_gatherSides 13 = .ok (.iload_n 2, 1) := by decide +kernel
theorem dX2_gatherSides_14 : decode cX2_gatherSides 14 = .ok (.invokevirtual 41, 3) := by decide +kernel
theorem dX2_gatherSides_17 : decode cX2_gatherSides 17 = .ok (.astore_n 3, 1) := by decide +kernel
theorem dX2_gatherSides_18 : decode cX2_gatherSides 18 = .ok (.aload_n 3, 1) := by decide +kernel
theorem dX2_gatherSides_19 : decode cX2_gatherSides 19 = .ok (.getfield 52, 3) := by decide +kernel
theorem dX2_gatherSides_22 : decode cX2_gatherSides 22 = .ok (.ifCond .ne 58, 3) := by decide +kernel
theorem dX2_gatherSides_25 : decode cX2_gatherSides 25 = .ok (.aload_n 0, 1) := by decide +kernel
theorem dX2_gatherSides_26 : decode cX2_gatherSides 26 = .ok (.getfield 17, 3) := by decide +kernel
theorem dX2_gatherSides_29 : decode cX2_gatherSides 29 = .ok (.iload_n 1, 1) := by decide +kernel
theorem dX2_gatherSides_30 : decode cX2_gatherSides 30 = .ok (.aload_n 3, 1) := by decide +kernel
theorem dX2_gatherSides_31 : decode cX2_gatherSides 31 = .ok (.getfield 72, 3) := by decide +kernel
theorem dX2_gatherSides_34 : decode cX2_gatherSides 34 = .ok (.invokestatic 75, 3) := by decide +kernel
theorem dX2_gatherSides_37 : decode cX2_gatherSides 37 = .ok (.aload_n 0, 1) := by decide +kernel
theorem dX2_gatherSides_38 : decode cX2_gatherSides 38 = .ok (.getfield 21, 3) := by decide +kernel
theorem dX2_gatherSides_41 : decode cX2_gatherSides 41 = .ok (.iload_n 1, 1) := by decide +kernel
theorem dX2_gatherSides_42 : decode cX2_gatherSides 42 = .ok (.aload_n 3, 1) := by decide +kernel
theorem dX2_gatherSides_43 : decode cX2_gatherSides 43 = .ok (.getfield 79, 3) := by decide +kernel
theorem dX2_gatherSides_46 : decode cX2_gatherSides 46 = .ok (.invokestatic 75, 3) := by decide +kernel
theorem dX2_gatherSides_49 : decode cX2_gatherSides 49 = .ok (.aload_n 0, 1) := by decide +kernel
theorem dX2_gatherSides_50 : decode cX2_gatherSides 50 = .ok (.getfield 17, 3) := by decide +kernel
theorem dX2_gatherSides_53 : decode cX2_gatherSides 53 = .ok (.iload_n 1, 1) := by decide +kernel
theorem dX2_gatherSides_54 : decode cX2_gatherSides 54 = .ok (.iconst 1, 1) := by decide +kernel
theorem dX2_gatherSides_55 : decode cX2_gatherSides 55 = .ok (.iadd, 1) := by decide +kernel
theorem dX2_gatherSides_56 : decode cX2_gatherSides 56 = .ok (.aload_n 3, 1) := by decide +kernel
theorem dX2_gatherSides_57 : decode cX2_gatherSides 57 = .ok (.getfield 82, 3) := by decide +kernel
theorem dX2_gatherSides_60 : decode cX2_gatherSides 60 = .ok (.invokestatic 75, 3) := by decide +kernel
theorem dX2_gatherSides_63 : decode cX2_gatherSides 63 = .ok (.aload_n 0, 1) := by decide +kernel
theorem dX2_gatherSides_64 : decode cX2_gatherSides 64 = .ok (.getfield 21, 3) := by decide +kernel
theorem dX2_gatherSides_67 : decode cX2_gatherSides 67 = .ok (.iload_n 1, 1) := by decide +kernel
theorem dX2_gatherSides_68 : decode cX2_gatherSides 68 = .ok (.iconst 1, 1) := by decide +kernel
theorem dX2_gatherSides_69 : decode cX2_gatherSides 69 = .ok (.iadd, 1) := by decide +kernel
theorem dX2_gatherSides_70 : decode cX2_gatherSides 70 = .ok (.aload_n 3, 1) := by decide +kernel
theorem dX2_gatherSides_71 : decode cX2_gatherSides 71 = .ok (.getfield 85, 3) := by decide +kernel
theorem dX2_gatherSides_74 : decode cX2_gatherSides 74 = .ok (.invokestatic 75, 3) := by decide +kernel
theorem dX2_gatherSides_77 : decode cX2_gatherSides 77 = .ok (.iinc 1 2, 3) := by decide +kernel
theorem dX2_gatherSides_80 : decode cX2_gatherSides 80 = .ok (.iinc 2 1, 3) := by decide +kernel
theorem dX2_gatherSides_83 : decode cX2_gatherSides 83 = .ok (.goto (-79), 3) := by decide +kernel
theorem dX2_gatherSides_86 : decode cX2_gatherSides 86 = .ok (.iload_n 1, 1) := by decide +kernel
theorem dX2_gatherSides_87 : decode cX2_gatherSides 87 = .ok (.ireturn, 1) := by decide +kernel
theorem dX2_layersTaken_0 : decode cX2_layersTaken 0 = .ok (.lconst 0, 1) := by decide +kernel
theorem dX2_layersTaken_1 : decode cX2_layersTaken 1 = .ok (.lstore_n 3, 1) := by decide +kernel
theorem dX2_layersTaken_2 : decode cX2_layersTaken 2 = .ok (.iconst 0, 1) := by decide +kernel
theorem dX2_layersTaken_3 : decode cX2_layersTaken 3 = .ok (.istore 5, 2) := by decide +kernel
theorem dX2_layersTaken_5 : decode cX2_layersTaken 5 = .ok (.iload 5, 2) := by decide +kernel
theorem dX2_layersTaken_7 : decode cX2_layersTaken 7 = .ok (.aload_n 0, 1) := by decide +kernel
theorem dX2_layersTaken_8 : decode cX2_layersTaken 8 = .ok (.getfield 37, 3) := by decide +kernel
theorem dX2_layersTaken_11 : decode cX2_layersTaken 11 = .ok (.if_icmp .ge 43, 3) := by decide +kernel
theorem dX2_layersTaken_14 : decode cX2_layersTaken 14 = .ok (.aload_n 0, 1) := by decide +kernel
theorem dX2_layersTaken_15 : decode cX2_layersTaken 15 = .ok (.iload 5, 2) := by decide +kernel
theorem dX2_layersTaken_17 : decode cX2_layersTaken 17 = .ok (.invokevirtual 41, 3) := by decide +kernel
theorem dX2_layersTaken_20 : decode cX2_layersTaken 20 = .ok (.astore 6, 2) := by decide +kernel
theorem dX2_layersTaken_22 : decode cX2_layersTaken 22 = .ok (.aload 6, 2) := by decide +kernel
theorem dX2_layersTaken_24 : decode cX2_layersTaken 24 = .ok (.getfield 52, 3) := by decide +kernel
theorem dX2_layersTaken_27 : decode cX2_layersTaken 27 = .ok (.ifCond .ne 21, 3) := by decide +kernel
theorem dX2_layersTaken_30 : decode cX2_layersTaken 30 = .ok (.aload 6, 2) := by decide +kernel
theorem dX2_layersTaken_32 : decode cX2_layersTaken 32 = .ok (.iload_n 1, 1) := by decide +kernel
theorem dX2_layersTaken_33 : decode cX2_layersTaken 33 = .ok (.iload_n 2, 1) := by decide +kernel
theorem dX2_layersTaken_34 : decode cX2_layersTaken 34 = .ok (.invokevirtual 88, 3) := by decide +kernel
theorem dX2_layersTaken_37 : decode cX2_layersTaken 37 = .ok (.ifCond .eq 11, 3) := by decide +kernel
theorem dX2_layersTaken_40 : decode cX2_layersTaken 40 = .ok (.lload_n 3, 1) := by decide +kernel
theorem dX2_layersTaken_41 : decode cX2_layersTaken 41 = .ok (.aload 6, 2) := by decide +kernel
theorem dX2_layersTaken_43 : decode cX2_layersTaken 43 = .ok (.invokevirtual 92, 3) := by decide +kernel
theorem dX2_layersTaken_46 : decode cX2_layersTaken 46 = .ok (.lor, 1) := by decide +kernel
theorem dX2_layersTaken_47 : decode cX2_layersTaken 47 = .ok (.lstore_n 3, 1) := by decide +kernel
theorem dX2_layersTaken_48 : decode cX2_layersTaken 48 = .ok (.iinc 5 1, 3) := by decide +kernel
theorem dX2_layersTaken_51 : decode cX2_layersTaken 51 = .ok (.goto (-46), 3) := by decide +kernel
theorem dX2_layersTaken_54 : decode cX2_layersTaken 54 = .ok (.lload_n 3, 1) := by decide +kernel
theorem dX2_layersTaken_55 : decode cX2_layersTaken 55 = .ok (.invokestatic 66, 3) := by decide +kernel
theorem dX2_layersTaken_58 : decode cX2_layersTaken 58 = .ok (.ireturn, 1) := by decide +kernel
theorem dX2_insertSorted_0 : decode cX2_insertSorted 0 = .ok (.iload_n 1, 1) := by decide +kernel
theorem dX2_insertSorted_1 : decode cX2_insertSorted 1 = .ok (.istore_n 3, 1) := by decide +kernel
theorem dX2_insertSorted_2 : decode cX2_insertSorted 2 = .ok (.iload_n 3, 1) := by decide +kernel
theorem dX2_insertSorted_3 : decode cX2_insertSorted 3 = .ok (.ifCond .le 26, 3) := by decide +kernel
theorem dX2_insertSorted_6 : decode cX2_insertSorted 6 = .ok (.aload_n 0, 1) := by decide +kernel
theorem dX2_insertSorted_7 : decode cX2_insertSorted 7 = .ok (.iload_n 3, 1) := by decide +kernel
theorem dX2_insertSorted_8 : decode cX2_insertSorted 8 = .ok (.iconst 1, 1) := by decide +kernel
theorem dX2_insertSorted_9 : decode cX2_insertSorted 9 = .ok (.isub, 1) := by decide +kernel
theorem dX2_insertSorted_10 : decode cX2_insertSorted 10 = .ok (.iaload, 1) := by decide +kernel
theorem dX2_insertSorted_11 : decode cX2_insertSorted 11 = .ok (.iload_n 2, 1) := by decide +kernel
theorem dX2_insertSorted_12 : decode cX2_insertSorted 12 = .ok (.if_icmp .le 17, 3) := by decide +kernel
theorem dX2_insertSorted_15 : decode cX2_insertSorted 15 = .ok (.aload_n 0, 1) := by decide +kernel
theorem dX2_insertSorted_16 : decode cX2_insertSorted 16 = .ok (.iload_n 3, 1) := by decide +kernel
theorem dX2_insertSorted_17 : decode cX2_insertSorted 17 = .ok (.aload_n 0, 1) := by decide +kernel
theorem dX2_insertSorted_18 : decode cX2_insertSorted 18 = .ok (.iload_n 3, 1) := by decide +kernel
theorem dX2_insertSorted_19 : decode cX2_insertSorted 19 = .ok (.iconst 1, 1) := by decide +kernel
theorem dX2_insertSorted_20 : decode cX2_insertSorted 20 = .ok (.isub, 1) := by decide +kernel
theorem dX2_insertSorted_21 : decode cX2_insertSorted 21 = .ok (.iaload, 1) := by decide +kernel
theorem dX2_insertSorted_22 : decode cX2_insertSorted 22 = .ok (.iastore, 1) := by decide +kernel
theorem dX2_insertSorted_23 : decode cX2_insertSorted 23 = .ok (.iinc 3 (-1), 3) := by decide +kernel
theorem dX2_insertSorted_26 : decode cX2_insertSorted 26 = .ok (.goto (-24), 3) := by decide +kernel
theorem dX2_insertSorted_29 : decode cX2_insertSorted 29 = .ok (.aload_n 0, 1) := by decide +kernel
theorem dX2_insertSorted_30 : decode cX2_insertSorted 30 = .ok (.iload_n 3, 1) := by decide +kernel
theorem dX2_insertSorted_31 : decode cX2_insertSorted 31 = .ok (.iload_n 2, 1) := by decide +kernel
theorem dX2_insertSorted_32 : decode cX2_insertSorted 32 = .ok (.iastore, 1) := by decide +kernel
theorem dX2_insertSorted_33 : decode cX2_insertSorted 33 = .ok (.return_, 1) := by decide +kernel
theorem dX3_init_0 : decode cX3_init 0 = .ok (.aload_n 0, 1) := by decide +kernel
theorem dX3_init_1 : decode cX3_init 1 = .ok (.invokespecial 3, 3) := by decide +kernel
theorem dX3_init_4 : decode cX3_init 4 = .ok (.aload_n 0, 1) := by decide +kernel
theorem dX3_init_5 : decode cX3_init 5 = .ok (.bipush 40, 2) := by decide +kernel
theorem dX3_init_7 : decode cX3_init 7 = .ok (.newarray .int, 2) := by decide +kernel
theorem dX3_init_9 : decode cX3_init 9 = .ok (.putfield 9, 3) := by decide +kernel
theorem dX3_init_12 : decode cX3_init 12 = .ok (.aload_n 0, 1) := by decide +kernel
theorem dX3_init_13 : decode cX3_init 13 = .ok (.bipush 40, 2) := by decide +kernel
theorem dX3_init_15 : decode cX3_init 15 = .ok (.newarray .int, 2) := by decide +kernel
theorem dX3_init_17 : decode cX3_init 17 = .ok (.putfield 15, 3) := by decide +kernel
theorem dX3_init_20 : decode cX3_init 20 = .ok (.aload_n 0, 1) := by decide +kernel
theorem dX3_init_21 : decode cX3_init 21 = .ok (.bipush 40, 2) := by decide +kernel
theorem dX3_init_23 : decode cX3_init 23 = .ok (.newarray .int, 2) := by decide +kernel
theorem dX3_init_25 : decode cX3_init 25 = .ok (.putfield 18, 3) := by decide +kernel
theorem dX3_init_28 : decode cX3_init 28 = .ok (.aload_n 0, 1) := by decide +kernel
theorem dX3_init_29 : decode cX3_init 29 = .ok (.bipush 40, 2) := by decide +kernel
theorem dX3_init_31 : decode cX3_init 31 = .ok (.newarray .int, 2) := by decide +kernel
theorem dX3_init_33 : decode cX3_init 33 = .ok (.putfield 21, 3) := by decide +kernel
theorem dX3_init_36 : decode cX3_init 36 = .ok (.aload_n 0, 1) := by decide +kernel
theorem dX3_init_37 : decode cX3_init 37 = .ok (.bipush 40, 2) := by decide +kernel
theorem dX3_init_39 : decode cX3_init 39 = .ok (.newarray .int, 2) := by decide +kernel
theorem dX3_init_41 : decode cX3_init 41 = .ok (.putfield 24, 3) := by decide +kernel
theorem dX3_init_44 : decode cX3_init 44 = .ok (.aload_n 0, 1) := by decide +kernel
theorem dX3_init_45 : decode cX3_init 45 = .ok (.iconst 4, 1) := by decide +kernel
theorem dX3_init_46 : decode cX3_init 46 = .ok (.bipush 40, 2) := by decide +kernel
theorem dX3_init_48 : decode cX3_init 48 = .ok (.multianewarray 27 2, 4) := by decide +kernel
theorem dX3_init_52 : decode cX3_init 52 = .ok (.putfield 29, 3) := by decide +kernel
theorem dX3_init_55 : decode cX3_init 55 = .ok (.return_, 1) := by decide +kernel
theorem dX3_append_0 : decode cX3_append 0 = .ok (.aload_n 0, 1) := by decide +kernel
theorem dX3_append_1 : decode cX3_append 1 = .ok (.getfield 32, 3) := by decide +kernel
theorem dX3_append_4 : decode cX3_append 4 = .ok (.istore 5, 2) := by decide +kernel
theorem dX3_append_6 : decode cX3_append 6 = .ok (.aload_n 0, 1) := by decide +kernel
theorem dX3_append_7 : decode cX3_append 7 = .ok (.getfield 9, 3) := by decide +kernel
theorem dX3_append_10 : decode cX3_append 10 = .ok (.iload 5, 2) := by decide +kernel
theorem dX3_append_12 : decode cX3_append 12 = .ok (.iload_n 1, 1) := by decide +kernel
theorem dX3_append_13 : decode cX3_append 13 = .ok (.iastore, 1) := by decide +kernel
theorem dX3_append_14 : decode cX3_append 14 = .ok (.aload_n 0, 1) := by decide +kernel
theorem dX3_append_15 : decode cX3_append 15 = .ok (.getfield 15, 3) := by decide +kernel
theorem dX3_append_18 : decode cX3_append 18 = .ok (.iload 5, 2) := by decide +kernel
theorem dX3_append_20 : decode cX3_append 20 = .ok (.iload_n 2, 1) := by decide +kernel
theorem dX3_append_21 : decode cX3_append 21 = .ok (.iastore, 1) := by decide +kernel
theorem dX3_append_22 : decode cX3_append 22 = .ok (.aload_n 0, 1) := by decide +kernel
theorem dX3_append_23 : decode cX3_append 23 = .ok (.getfield 18, 3) := by decide +kernel
theorem dX3_append_26 : decode cX3_append 26 = .ok (.iload 5, 2) := by decide +kernel
theorem dX3_append_28 : decode cX3_append 28 = .ok (.iload_n 3, 1) := by decide +kernel
theorem dX3_append_29 : decode cX3_append 29 = .ok (.iastore, 1) := by decide +kernel
theorem dX3_append_30 : decode cX3_append 30 = .ok (.aload_n 0, 1) := by decide +kernel
theorem dX3_append_31 : decode cX3_append 31 = .ok (.getfield 21, 3) := by decide +kernel
theorem dX3_append_34 : decode cX3_append 34 = .ok (.iload 5, 2) := by decide +kernel
theorem dX3_append_36 : decode cX3_append 36 = .ok (.iload 4, 2) := by decide +kernel
theorem dX3_append_38 : decode cX3_append 38 = .ok (.iastore, 1) := by decide +kernel
theorem dX3_append_39 : decode cX3_append 39 = .ok (.iconst 0, 1) := by decide +kernel
theorem dX3_append_40 : decode cX3_append 40 = .ok (.istore 6, 2) := by decide +kernel
theorem dX3_append_42 : decode cX3_append 42 = .ok (.iload 6, 2) := by decide +kernel
theorem dX3_append_44 : decode cX3_append 44 = .ok (.iconst 4, 1) := by decide +kernel
theorem dX3_append_45 : decode cX3_append 45 = .ok (.if_icmp .ge 21, 3) := by decide +kernel
theorem dX3_append_48 : decode cX3_append 48 = .ok (.aload_n 0, 1) := by decide +kernel
theorem dX3_append_49 : decode cX3_append 49 = .ok (.getfield 29, 3) := by decide +kernel
theorem dX3_append_52 : decode cX3_append 52 = .ok (.iload 6, 2) := by decide +kernel
theorem dX3_append_54 : decode cX3_append 54 = .ok (.aaload, 1) := by decide +kernel
theorem dX3_append_55 : decode cX3_append 55 = .ok (.iload 5, 2) := by decide +kernel
theorem dX3_append_57 : decode cX3_append 57 = .ok (.bipush 101, 2) := by decide +kernel
theorem dX3_append_59 : decode cX3_append 59 = .ok (.iastore, 1) := by decide +kernel
theorem dX3_append_60 : decode cX3_append 60 = .ok (.iinc 6 1, 3) := by decide +kernel
theorem dX3_append_63 : decode cX3_append 63 = .ok (.goto (-21), 3) := by decide +kernel
theorem dX3_append_66 : decode cX3_append 66 = .ok (.aload_n 0, 1) := by decide +kernel
theorem dX3_append_67 : decode cX3_append 67 = .ok (.dup, 1) := by decide +kernel
theorem dX3_append_68 : decode cX3_append 68 = .ok (.getfield 32, 3) := by decide +kernel
theorem dX3_append_71 : decode cX3_append 71 = .ok (.iconst 1, 1) := by decide +kernel
theorem dX3_append_72 : decode cX3_append 72 = .ok (.iadd, 1) := by decide +kernel
theorem dX3_append_73 : decode cX3_append 73 = .ok (.putfield 32, 3) := by decide +kernel
theorem dX3_append_76 : decode cX3_append 76 = .ok (.iload 5, 2) := by decide +kernel
theorem dX3_append_78 : decode cX3_append 78 = .ok (.ireturn, 1) := by decide +kernel
theorem dX3_drop_0 : decode cX3_drop 0 = .ok (.aload_n 0, 1) := by decide +kernel
theorem dX3_drop_1 : decode cX3_drop 1 = .ok (.aload_n 0, 1) := by decide +kernel
theorem dX3_drop_2 : decode cX3_drop 2 = .ok (.getfield 9, 3) := by decide +kernel
theorem dX3_drop_5 : decode cX3_drop 5 = .ok (.iload_n 1, 1) := by decide +kernel
theorem dX3_drop_6 : decode cX3_drop 6 = .ok (.invokevirtual 36, 3) := by decide +kernel
theorem dX3_drop_9 : decode cX3_drop 9 = .ok (.aload_n 0, 1) := by decide +kernel
theorem dX3_drop_10 : decode cX3_drop 10 = .ok (.aload_n 0, 1) := by decide +kernel
theorem dX3_drop_11 : decode cX3_drop 11 = .ok (.getfield 15, 3) := by decide +kernel
theorem dX3_drop_14 : decode cX3_drop 14 = .ok (.iload_n 1, 1) := by decide +kernel
theorem dX3_drop_15 : decode cX3_drop 15 = .ok (.invokevirtual 36, 3) := by decide +kernel
theorem dX3_drop_18 : decode cX3_drop 18 = .ok (.aload_n 0, 1) := by decide +kernel
theorem dX3_drop_19 : decode cX3_drop 19 = .ok (.aload_n 0, 1) := by decide +kernel
theorem dX3_drop_20 : decode cX3_drop 20 = .ok (.getfield 18, 3) := by decide +kernel
theorem dX3_drop_23 : decode cX3_drop 23 = .ok (.iload_n 1, 1) := by decide +kernel
theorem dX3_drop_24 : decode cX3_drop 24 = .ok (.invokevirtual 36, 3) := by decide +kernel
theorem dX3_drop_27 : decode cX3_drop 27 = .ok (.aload_n 0, 1) := by decide +kernel
theorem dX3_drop_28 : decode cX3_drop 28 = .ok (.aload_n 0, 1) := by decide +kernel
theorem dX3_drop_29 : decode cX3_drop 29 = .ok (.getfield 21, 3) := by decide +kernel
theorem dX3_drop_32 : decode cX3_drop 32 = .ok (.iload_n 1, 1) := by decide +kernel
theorem dX3_drop_33 : decode cX3_drop 33 = .ok (.invokevirtual 36, 3) := by decide +kernel
theorem dX3_drop_36 : decode cX3_drop 36 = .ok (.iconst 0, 1) := by decide +kernel
theorem dX3_drop_37 : decode cX3_drop 37 = .ok (.istore_n 2, 1) := by decide +kernel
theorem dX3_drop_38 : decode cX3_drop 38 = .ok (.iload_n 2, 1) := by decide +kernel
theorem dX3_drop_39 : decode cX3_drop 39 = .ok (.iconst 4, 1) := by decide +kernel
theorem dX3_drop_40 : decode cX3_drop 40 = .ok (.if_icmp .ge 20, 3) := by decide +kernel
theorem dX3_drop_43 : decode cX3_drop 43 = .ok (.aload_n 0, 1) := by decide +kernel
theorem dX3_drop_44 : decode cX3_drop 44 = .ok (.aload_n 0, 1) := by decide +kernel
theorem dX3_drop_45 : decode cX3_drop 45 = .ok (.getfield 29, 3) := by decide +kernel
theorem dX3_drop_48 : decode cX3_drop 48 = .ok (.iload_n 2, 1) := by decide +kernel
theorem dX3_drop_49 : decode cX3_drop 49 = .ok (.aaload, 1) := by decide +kernel
theorem dX3_drop_50 : decode cX3_drop 50 = .ok (.iload_n 1, 1) := by decide +kernel
theorem dX3_drop_51 : decode cX3_drop 51 = .ok (.invokevirtual 36, 3) := by decide +kernel
theorem dX3_drop_54 : decode cX3_drop 54 = .ok (.iinc 2 1, 3) := by decide +kernel
theorem dX3_drop_57 : decode cX3_drop 57 = .ok (.goto (-19), 3) := by decide +kernel
theorem dX3_drop_60 : decode cX3_drop 60 = .ok (.aload_n 0, 1) := by decide +kernel
theorem dX3_drop_61 : decode cX3_drop 61 = .ok (.dup, 1) := by decide +kernel
theorem dX3_drop_62 : decode cX3_drop 62 = .ok (.getfield 32, 3) := by decide +kernel
theorem dX3_drop_65 : decode cX3_drop 65 = .ok (.iconst 1, 1) := by decide +kernel
theorem dX3_drop_66 : decode cX3_drop 66 = .ok (.isub, 1) := by decide +kernel
theorem dX3_drop_67 : decode cX3_drop 67 = .ok (.putfield 32, 3) := by decide +kernel
theorem dX3_drop_70 : decode cX3_drop 70 = .ok (.return_, 1) := by decide +kernel
theorem dX3_countTold_0 : decode cX3_countTold 0 = .ok (.iconst 0, 1) := by decide +kernel
theorem dX3_countTold_1 : decode cX3_countTold 1 = .ok (.istore_n 2, 1) := by decide +kernel
theorem dX3_countTold_2 : decode cX3_countTold 2 = .ok (.iconst 0, 1) := by decide +kernel
theorem dX3_countTold_3 : decode cX3_countTold 3 = .ok (.istore_n 3, 1) := by decide +kernel
theorem dX3_countTold_4 : decode cX3_countTold 4 = .ok (.iload_n 3, 1) := by decide +kernel
theorem dX3_countTold_5 : decode cX3_countTold 5 = .ok (.aload_n 0, 1) := by decide +kernel
theorem dX3_countTold_6 : decode cX3_countTold 6 = .ok (.getfield 32, 3) := by decide +kernel
theorem dX3_countTold_9 : decode cX3_countTold 9 = .ok (.if_icmp .ge 25, 3) := by decide +kernel
theorem dX3_countTold_12 : decode cX3_countTold 12 = .ok (.aload_n 0, 1) := by decide +kernel
theorem dX3_countTold_13 : decode cX3_countTold 13 = .ok (.getfield 29, 3) := by decide +kernel
theorem dX3_countTold_16 : decode cX3_countTold 16 = .ok (.iload_n 1, 1) := by decide +kernel
theorem dX3_countTold_17 : decode cX3_countTold 17 = .ok (.aaload, 1) := by decide +kernel
theorem dX3_countTold_18 : decode cX3_countTold 18 = .ok (.iload_n 3, 1) := by decide +kernel
theorem dX3_countTold_19 : decode cX3_countTold 19 = .ok (.iaload, 1) := by decide +kernel
theorem dX3_countTold_20 : decode cX3_countTold 20 = .ok (.bipush 101, 2) := by decide +kernel
theorem dX3_countTold_22 : decode cX3_countTold 22 = .ok (.if_icmp .eq 6, 3) := by decide +kernel
theorem dX3_countTold_25 : decode cX3_countTold 25 = .ok (.iinc 2 1, 3) := by decide +kernel
theorem dX3_countTold_28 : decode cX3_countTold 28 = .ok (.iinc 3 1, 3) := by decide +kernel
theorem dX3_countTold_31 : decode cX3_countTold 31 = .ok (.goto (-27), 3) := by decide +kernel
theorem dX3_countTold_34 : decode cX3_countTold 34 = .ok (.iload_n 2, 1) := by decide +kernel
theorem dX3_countTold_35 : decode cX3_countTold 35 = .ok (.ireturn, 1) := by decide +kernel
theorem dX3_takeOver_0 : decode cX3_takeOver 0 = .ok (.iconst 0, 1) := by decide +kernel
theorem dX3_takeOver_1 : decode cX3_takeOver 1 = .ok (.istore_n 2, 1) := by decide +kernel
theorem dX3_takeOver_2 : decode cX3_takeOver 2 = .ok (.iconst 0, 1) := by decide +kernel
theorem dX3_takeOver_3 : decode cX3_takeOver 3 = .ok (.istore_n 3, 1) := by decide +kernel
theorem dX3_takeOver_4 : decode cX3_takeOver 4 = .ok (.iload_n 3, 1) := by decide +kernel
theorem dX3_takeOver_5 : decode cX3_takeOver 5 = .ok (.aload_n 0, 1) := by decide +kernel
theorem dX3_takeOver_6 : decode cX3_takeOver 6 = .ok (.getfield 32, 3) := by decide +kernel
theorem dX3_takeOver_9 : decode cX3_takeOver 9 = .ok (.if_icmp .ge 48, 3) := by decide +kernel
theorem dX3_takeOver_12 : decode cX3_takeOver 12 = .ok (.aload_n 0, 1) := by decide +kernel
theorem dX3_takeOver_13 : decode cX3_takeOver 13 = .ok (.getfield 29, 3) := by decide +kernel
theorem dX3_takeOver_16 : decode cX3_takeOver 16 = .ok (.iload_n 1, 1) := by decide +kernel
theorem dX3_takeOver_17 : decode cX3_takeOver 17 = .ok (.aaload, 1) := by decide +kernel
theorem dX3_takeOver_18 : decode cX3_takeOver 18 = .ok (.iload_n 3, 1) := by decide +kernel
theorem dX3_takeOver_19 : decode cX3_takeOver 19 = .ok (.iaload, 1) := by decide +kernel
theorem dX3_takeOver_20 : decode cX3_takeOver 20 = .ok (.istore 4, 2) := by decide +kernel
theorem dX3_takeOver_22 : decode cX3_takeOver 22 = .ok (.iload 4, 2) := by decide +kernel
theorem dX3_takeOver_24 : decode cX3_takeOver 24 = .ok (.bipush 101, 2) := by decide +kernel
theorem dX3_takeOver_26 : decode cX3_takeOver 26 = .ok (.if_icmp .eq 25, 3) := by decide +kernel
theorem dX3_takeOver_29 : decode cX3_takeOver 29 = .ok (.iload 4, 2) := by decide +kernel
theorem dX3_takeOver_31 : decode cX3_takeOver 31 = .ok (.aload_n 0, 1) := by decide +kernel
theorem dX3_takeOver_32 : decode cX3_takeOver 32 = .ok (.getfield 21, 3) := by decide +kernel
theorem dX3_takeOver_35 : decode cX3_takeOver 35 = .ok (.iload_n 3, 1) := by decide +kernel
theorem dX3_takeOver_36 : decode cX3_takeOver 36 = .ok (.iaload, 1) := by decide +kernel
theorem dX3_takeOver_37 : decode cX3_takeOver 37 = .ok (.if_icmp .eq 14, 3) := by decide +kernel
theorem dX3_takeOver_40 : decode cX3_takeOver 40 = .ok (.aload_n 0, 1) := by decide +kernel
theorem dX3_takeOver_41 : decode cX3_takeOver 41 = .ok (.getfield 21, 3) := by decide +kernel
theorem dX3_takeOver_44 : decode cX3_takeOver 44 = .ok (.iload_n 3, 1) := by decide +kernel
theorem dX3_takeOver_45 : decode cX3_takeOver 45 = .ok (.iload 4, 2) := by decide +kernel
theorem dX3_takeOver_47 : decode cX3_takeOver 47 = .ok (.iastore, 1) := by decide +kernel
theorem dX3_takeOver_48 : decode cX3_takeOver 48 = .ok (.iinc 2 1, 3) := by decide +kernel
theorem dX3_takeOver_51 : decode cX3_takeOver 51 = .ok (.iinc 3 1, 3) := by decide +kernel
theorem dX3_takeOver_54 : decode cX3_takeOver 54 = .ok (.goto (-50), 3) := by decide +kernel
theorem dX3_takeOver_57 : decode cX3_takeOver 57 = .ok (.iload_n 2, 1) := by decide +kernel
theorem dX3_takeOver_58 : decode cX3_takeOver 58 = .ok (.ireturn, 1) := by decide +kernel
theorem dX3_closeGap_0 : decode cX3_closeGap 0 = .ok (.aload_n 1, 1) := by decide +kernel
theorem dX3_closeGap_1 : decode cX3_closeGap 1 = .ok (.iload_n 2, 1) := by decide +kernel
theorem dX3_closeGap_2 : decode cX3_closeGap 2 = .ok (.iconst 1, 1) := by decide +kernel
theorem dX3_closeGap_3 : decode cX3_closeGap 3 = .ok (.iadd, 1) := by decide +kernel
theorem dX3_closeGap_4 : decode cX3_closeGap 4 = .ok (.aload_n 1, 1) := by decide +kernel
theorem dX3_closeGap_5 : decode cX3_closeGap 5 = .ok (.iload_n 2, 1) := by decide +kernel
theorem dX3_closeGap_6 : decode cX3_closeGap 6 = .ok (.aload_n 0, 1) := by decide +kernel
theorem dX3_closeGap_7 : decode cX3_closeGap 7 = .ok (.getfield 32, 3) := by decide +kernel
theorem dX3_closeGap_10 : decode cX3_closeGap 10 = .ok (.iload_n 2, 1) := by decide +kernel
theorem dX3_closeGap_11 : decode cX3_closeGap 11 = .ok (.isub, 1) := by decide +kernel
theorem dX3_closeGap_12 : decode cX3_closeGap 12 = .ok (.iconst 1, 1) := by decide +kernel
theorem dX3_closeGap_13 : decode cX3_closeGap 13 = .ok (.isub, 1) := by decide +kernel
theorem dX3_closeGap_14 : decode cX3_closeGap 14 = .ok (.invokestatic 40, 3) := by decide +kernel
theorem dX3_closeGap_17 : decode cX3_closeGap 17 = .ok (.return_, 1) := by decide +kernel
end
section
theorem dJ13_bitCount_95d88_0 : decode cJ13_bitCount_95d88 0 = .ok (.lload_n 0, 1) := by decide +kernel
theorem dJ13_bitCount_95d88_1 : decode cJ13_bitCount_95d88 1 = .ok (.lload_n 0, 1) := by decide +kernel
theorem dJ13_bitCount_95d88_2 : decode cJ13_bitCount_95d88 2 = .ok (.iconst 1, 1) := by decide +kernel
theorem dJ13_bitCount_95d88_3 : decode cJ13_bitCount_95d88 3 = .ok (.lushr, 1) := by decide +kernel
theorem dJ13_bitCount_95d88_4 : decode cJ13_bitCount_95d88 4 = .ok (.ldc2_w 314, 3) := by decide +kernel
theorem dJ13_bitCount_95d88_7 : decode cJ13_bitCount_95d88 7 = .ok (.land, 1) := by decide +kernel
theorem dJ13_bitCount_95d88_8 : decode cJ13_bitCount_95d88 8 = .ok (.lsub, 1) := by decide +kernel
theorem dJ13_bitCount_95d88_9 : decode cJ13_bitCount_95d88 9 = .ok (.lstore_n 0, 1) := by decide +kernel
theorem dJ13_bitCount_95d88_10 : decode cJ13_bitCount_95d88 10 = .ok (.lload_n 0, 1) := by decide +kernel
theorem dJ13_bitCount_95d88_11 : decode cJ13_bitCount_95d88 11 = .ok (.ldc2_w 316, 3) := by decide +kernel
theorem dJ13_bitCount_95d88_14 : decode cJ13_bitCount_95d88 14 = .ok (.land, 1) := by decide +kernel
theorem dJ13_bitCount_95d88_15 : decode cJ13_bitCount_95d88 15 = .ok (.lload_n 0, 1) := by decide +kernel
theorem dJ13_bitCount_95d88_16 : decode cJ13_bitCount_95d88 16 = .ok (.iconst 2, 1) := by decide +kernel
theorem dJ13_bitCount_95d88_17 : decode cJ13_bitCount_95d88 17 = .ok (.lushr, 1) := by decide +kernel
theorem dJ13_bitCount_95d88_18 : decode cJ13_bitCount_95d88 18 = .ok (.ldc2_w 316, 3) := by decide +kernel
theorem dJ13_bitCount_95d88_21 : decode cJ13_bitCount_95d88 21 = .ok (.land, 1) := by decide +kernel
theorem dJ13_bitCount_95d88_22 : decode cJ13_bitCount_95d88 22 = .ok (.ladd, 1) := by decide +kernel
theorem dJ13_bitCount_95d88_23 : decode cJ13_bitCount_95d88 23 = .ok (.lstore_n 0, 1) := by decide +kernel
theorem dJ13_bitCount_95d88_24 : decode cJ13_bitCount_95d88 24 = .ok (.lload_n 0, 1) := by decide +kernel
theorem dJ13_bitCount_95d88_25 : decode cJ13_bitCount_95d88 25 = .ok (.lload_n 0, 1) := by decide +kernel
theorem dJ13_bitCount_95d88_26 : decode cJ13_bitCount_95d88 26 = .ok (.iconst 4, 1) := by decide +kernel
theorem dJ13_bitCount_95d88_27 : decode cJ13_bitCount_95d88 27 = .ok (.lushr, 1) := by decide +kernel
theorem dJ13_bitCount_95d88_28 : decode cJ13_bitCount_95d88 28 = .ok (.ladd, 1) := by decide +kernel
theorem dJ13_bitCount_95d88_29 : decode cJ13_bitCount_95d88 29 = .ok (.ldc2_w 318, 3) := by decide +kernel
theorem dJ13_bitCount_95d88_32 : decode cJ13_bitCount_95d88 32 = .ok (.land, 1) := by decide +kernel
theorem dJ13_bitCount_95d88_33 : decode cJ13_bitCount_95d88 33 = .ok (.lstore_n 0, 1) := by decide +kernel
theorem dJ13_bitCount_95d88_34 : decode cJ13_bitCount_95d88 34 = .ok (.lload_n 0, 1) := by decide +kernel
theorem dJ13_bitCount_95d88_35 : decode cJ13_bitCount_95d88 35 = .ok (.lload_n 0, 1) := by decide +kernel
theorem dJ13_bitCount_95d88_36 : decode cJ13_bitCount_95d88 36 = .ok (.bipush 8, 2) := by decide +kernel
theorem dJ13_bitCount_95d88_38 : decode cJ13_bitCount_95d88 38 = .ok (.lushr, 1) := by decide +kernel
theorem dJ13_bitCount_95d88_39 : decode cJ13_bitCount_95d88 39 = .ok (.ladd, 1) := by decide +kernel
theorem dJ13_bitCount_95d88_40 : decode cJ13_bitCount_95d88 40 = .ok (.lstore_n 0, 1) := by decide +kernel
theorem dJ13_bitCount_95d88_41 : decode cJ13_bitCount_95d88 41 = .ok (.lload_n 0, 1) := by decide +kernel
theorem dJ13_bitCount_95d88_42 : decode cJ13_bitCount_95d88 42 = .ok (.lload_n 0, 1) := by decide +kernel
theorem dJ13_bitCount_95d88_43 : decode cJ13_bitCount_95d88 43 = .ok (.bipush 16, 2) := by decide +kernel
theorem dJ13_bitCount_95d88_45 : decode cJ13_bitCount_95d88 45 = .ok (.lushr, 1) := by decide +kernel
theorem dJ13_bitCount_95d88_46 : decode cJ13_bitCount_95d88 46 = .ok (.ladd, 1) := by decide +kernel
theorem dJ13_bitCount_95d88_47 : decode cJ13_bitCount_95d88 47 = .ok (.lstore_n 0, 1) := by decide +kernel
theorem dJ13_bitCount_95d88_48 : decode cJ13_bitCount_95d88 48 = .ok (.lload_n 0, 1) := by decide +kernel
theorem dJ13_bitCount_95d88_49 : decode cJ13_bitCount_95d88 49 = .ok (.lload_n 0, 1) := by decide +kernel
theorem dJ13_bitCount_95d88_50 : decode cJ13_bitCount_95d88 50 = .ok (.bipush 32, 2) := by decide +kernel
theorem dJ13_bitCount_95d88_52 : decode cJ13_bitCount_95d88 52 = .ok (.lushr, 1) := by decide +kernel
theorem dJ13_bitCount_95d88_53 : decode cJ13_bitCount_95d88 53 = .ok (.ladd, 1) := by decide +kernel
theorem dJ13_bitCount_95d88_54 : decode cJ13_bitCount_95d88 54 = .ok (.lstore_n 0, 1) := by decide +kernel
theorem dJ13_bitCount_95d88_55 : decode cJ13_bitCount_95d88 55 = .ok (.lload_n 0, 1) := by decide +kernel
theorem dJ13_bitCount_95d88_56 : decode cJ13_bitCount_95d88 56 = .ok (.l2i, 1) := by decide +kernel
theorem dJ13_bitCount_95d88_57 : decode cJ13_bitCount_95d88 57 = .ok (.bipush 127, 2) := by decide +kernel
theorem dJ13_bitCount_95d88_59 : decode cJ13_bitCount_95d88 59 = .ok (.iand, 1) := by decide +kernel
theorem dJ13_bitCount_95d88_60 : decode cJ13_bitCount_95d88 60 = .ok (.ireturn, 1) := by decide +kernel
end
section
/-! my own layer: one set of array classes for all worlds, one fact for a world, segments that a call cuts out -/
abbrev gT : Type := va_G × (ClassId × ClassId × ClassId × ClassId × ClassId)
abbrev gD (G : gT) : va_G := G.1
abbrev gI (G : gT) : ClassId := G.2.1
abbrev gZ (G : gT) : ClassId := G.2.2.1
abbrev gB (G : gT) : ClassId := G.2.2.2.1
abbrev gM (G : gT) : ClassId := G.2.2.2.2.1
abbrev gJ (G : gT) : ClassId := G.2.2.2.2.2
abbrev gTy (G : gT) : List (ClassId × FieldType) := [(gI G, .int), (gZ G, .boolean), (gB G, .object "PartSketch$Block"), (gM G, .array .int), (gJ G, .long)]
def wK (G : gT) (U : State) : Prop := va_K (gD G) vwCl (gTy G) U
theorem wK.moved {G : gT} {u U : State} (hvm : u.vm.Alike U.vm) (h : wK G u) : wK G U := va_K.moved hvm h
def wW (G : gT) (A : Nat → Prop) (H0 : Heap) (ws : va_W) (H : Heap) (locs : List Loc) : Prop := va_P (gD G) vwCl ws H ∧ va_D A ws ∧ va_S A H0 H locs
def wPre (G : gT) (ws : va_W) (sz : Nat) (U : State) : Prop := U.heap.size = sz ∧ va_P (gD G) vwCl ws U.heap ∧ wK G U ∧ va_D (fun _ => True) ws
def wPost (G : gT) (A : Nat → Prop) (ws : va_W) (t : State) : Prop := va_P (gD G) vwCl ws t.heap ∧ wK G t ∧ va_D A ws
theorem wPre.blind {G : gT} {ws : va_W} {sz : Nat} {as : List Value} : FrameBlind (va_Pc as (wPre G ws sz)) := fun a U g mk q => by
  obtain ⟨q0, q1, qP, qK, qD⟩ := q
  exact ⟨q0, q1, qP, wK.moved (u := U) (U := U.calling g mk a) (Vm.Alike.refl U.vm) qK, qD⟩
/-! the forms of a contract -/
abbrev MI (l : Launch) (y : MethodName) (wl : List Cond) (rm : Room) (G : gT) (as : List Value) (w w1 : va_W) (sz : Nat) (res : Int32) (mc ms : Nat) : Prop :=
  Met l y wl rm (va_Pc as (wPre G w sz)) (va_Qi (fun (r : Int32) (_ : Unit) => r = res) (fun _ t => wPost G (va_A w sz) w1 t) (va_A w sz)) mc ms (va_A w sz)
abbrev ML (l : Launch) (y : MethodName) (wl : List Cond) (rm : Room) (G : gT) (as : List Value) (w w1 : va_W) (sz : Nat) (res : Int64) (mc ms : Nat) : Prop :=
  Met l y wl rm (va_Pc as (wPre G w sz)) (va_Ql (fun (r : Int64) (_ : Unit) => r = res) (fun _ t => wPost G (va_A w sz) w1 t) (va_A w sz)) mc ms (va_A w sz)
abbrev MV (l : Launch) (y : MethodName) (wl : List Cond) (rm : Room) (G : gT) (as : List Value) (w w1 : va_W) (sz : Nat) (mc ms : Nat) : Prop :=
  Met l y wl rm (va_Pc as (wPre G w sz)) (va_Qv (fun (_ : Unit) => True) (fun _ t => wPost G (va_A w sz) w1 t) (va_A w sz)) mc ms (va_A w sz)
abbrev MR (l : Launch) (y : MethodName) (wl : List Cond) (rm : Room) (G : gT) (as : List Value) (w w1 : va_W) (sz : Nat) (res : Nat) (mc ms : Nat) : Prop :=
  Met l y wl rm (va_Pc as (wPre G w sz)) (va_Qr (fun (_ : Unit) => True) (fun _ a t => a = res ∧ wPost G (va_A w sz) w1 t) (va_A w sz)) mc ms (va_A w sz)
/-- a constructor: its world comes with new addresses -/
abbrev MC {S : Type} (l : Launch) (y : MethodName) (wl : List Cond) (rm : Room) (G : gT) (as : List Value) (w : va_W) (w1 : S → va_W) (sz : Nat) (mc ms : Nat) : Prop :=
  Met l y wl rm (va_Pc as (wPre G w sz)) (va_Qv (fun (_ : S) => True) (fun u t => wPost G (va_A w sz) (w1 u) t) (va_A w sz)) mc ms (va_A w sz)
/-! worlds side by side -/
theorem vd_left {A : Nat → Prop} {a b : va_W} (h : va_D A (a ++ b)) : va_D A a := ⟨fun i j p q hi hj e => h.1 i j p q (by rw [List.getElem?_append_left (List.getElem?_eq_some_iff.mp hi).1]; exact hi) (by rw [List.getElem?_append_left (List.getElem?_eq_some_iff.mp hj).1]; exact hj) e, fun k q hk => h.2 k q (by rw [List.getElem?_append_left (List.getElem?_eq_some_iff.mp hk).1]; exact hk)⟩
theorem vd_at_right {a b : va_W} {i : Nat} {p : Nat × va_E} (hi : b[i]? = some p) : (a ++ b)[a.length + i]? = some p := by
  rw [List.getElem?_append_right (by omega), Nat.add_sub_cancel_left]; exact hi
theorem vd_right {A : Nat → Prop} {a b : va_W} (h : va_D A (a ++ b)) : va_D A b := ⟨fun i j p q hi hj e => by
  have := h.1 _ _ p q (vd_at_right (a := a) hi) (vd_at_right (a := a) hj) e
  omega, fun k q hk => h.2 _ q (vd_at_right (a := a) hk)⟩
theorem vd_cross {A : Nat → Prop} {a b : va_W} (h : va_D A (a ++ b)) {p q : Nat × va_E} (hp : p ∈ a) (hq : q ∈ b) : p.1 ≠ q.1 := fun e => by
  obtain ⟨i, hi⟩ := List.getElem?_of_mem hp
  obtain ⟨j, hj⟩ := List.getElem?_of_mem hq
  have hl := (List.getElem?_eq_some_iff.mp hi).1
  have := h.1 _ _ p q (by rw [List.getElem?_append_left hl]; exact hi) (vd_at_right (a := a) hj) e
  omega
theorem vd_mem {A : Nat → Prop} {a : va_W} (h : va_D A a) {p : Nat × va_E} (hp : p ∈ a) : A p.1 := by
  obtain ⟨i, hi⟩ := List.getElem?_of_mem hp
  exact h.2 i p hi
theorem vd_app {A : Nat → Prop} {a b : va_W} (h1 : va_D A a) (h2 : va_D A b) (hx : ∀ p ∈ a, ∀ q ∈ b, p.1 ≠ q.1) : va_D A (a ++ b) := h1.app h2 (fun _ _ p q hp hq => hx p (List.mem_of_getElem? hp) q (List.mem_of_getElem? hq))
theorem vp_mem {D : va_G} {cl : List vw_C} {a : va_W} {H : Heap} (h : va_P D cl a H) {p : Nat × va_E} (hp : p ∈ a) : va_at D cl p H := by
  obtain ⟨i, hi⟩ := List.getElem?_of_mem hp
  exact h i p hi
theorem vp_all {D : va_G} {cl : List vw_C} {a : va_W} {H : Heap} (h : ∀ p ∈ a, va_at D cl p H) : va_P D cl a H := fun _ p hp => h p (List.mem_of_getElem? hp)
theorem va_A_mem {w : va_W} {sz q : Nat} (h : va_A w sz q) : (∃ e ∈ w, e.1 = q) ∨ sz ≤ q := by
  rcases h with ⟨k, e, h⟩ | h
  · exact Or.inl ⟨_, List.mem_of_getElem? h, rfl⟩
  · exact Or.inr h
theorem w_free {G : gT} {A : Nat → Prop} {H0 H : Heap} {u w v : va_W} {locs : List Loc} (hw : wW G A H0 (u ++ (w ++ v)) H locs) (hA : ∀ q, H0.size ≤ q → A q) : ∀ q, va_A w H.size q → A q := fun q h => by
  rcases va_A_mem h with ⟨e, he, rfl⟩ | h
  · exact vd_mem hw.2.1 (List.mem_append_right _ (List.mem_append_left _ he))
  · exact hA q (Nat.le_trans hw.2.2.1 h)
theorem w_cut {G : gT} {A : Nat → Prop} {H0 H : Heap} {u w v : va_W} {locs : List Loc} (hw : wW G A H0 (u ++ (w ++ v)) H locs) : va_P (gD G) vwCl w H ∧ va_D (fun _ => True) w :=
  ⟨vp_all fun _ hp => vp_mem hw.1 (List.mem_append_right _ (List.mem_append_left _ hp)), (vd_left (vd_right hw.2.1)).weaken (fun _ _ _ _ => trivial)⟩
theorem w_join {G : gT} {A : Nat → Prop} {H0 H H1 : Heap} {u w v w1 : va_W} {locs locs1 : List Loc} (hw : wW G A H0 (u ++ (w ++ v)) H locs) (hA : ∀ q, H0.size ≤ q → A q)
    (hk : ∀ q : Nat, q < H.size → ¬ va_A w H.size q → H1[q]? = H[q]?) (hS1 : va_S A H0 H1 locs1) (hP1 : va_P (gD G) vwCl w1 H1) (hD1 : va_D (va_A w H.size) w1) : wW G A H0 (u ++ (w1 ++ v)) H1 locs1 := by
  obtain ⟨hP, hD, hS⟩ := id hw
  have hu : ∀ p ∈ u, va_at (gD G) vwCl p H := fun p hp => vp_mem hP (List.mem_append_left _ hp)
  have hv : ∀ p ∈ v, va_at (gD G) vwCl p H := fun p hp => vp_mem hP (List.mem_append_right _ (List.mem_append_right _ hp))
  have nu : ∀ p ∈ u, ¬ va_A w H.size p.1 := fun p hp h => by
    rcases va_A_mem h with ⟨e, he, h⟩ | h
    · exact vd_cross hD hp (List.mem_append_left _ he) h.symm
    · exact absurd (hu p hp).lt (Nat.not_lt.mpr h)
  have nv : ∀ p ∈ v, ¬ va_A w H.size p.1 := fun p hp h => by
    rcases va_A_mem h with ⟨e, he, h⟩ | h
    · exact vd_cross (vd_right hD) he hp h
    · exact absurd (hv p hp).lt (Nat.not_lt.mpr h)
  refine ⟨vp_all fun p hp => ?_, vd_app (vd_left hD) (vd_app (hD1.weaken fun _ q _ h => w_free hw hA q.1 h) (vd_right (vd_right hD)) fun p hp q hq e => nv q hq (by rw [← e]; exact vd_mem hD1 hp)) fun p hp q hq => ?_, hS1⟩
  · rcases List.mem_append.mp hp with h | h
    · exact (hu p h).kept (hk _ (hu p h).lt (nu p h))
    · rcases List.mem_append.mp h with h | h
      · exact vp_mem hP1 h
      · exact (hv p h).kept (hk _ (hv p h).lt (nv p h))
  · rcases List.mem_append.mp hq with h | h
    · exact fun e => nu p hp (by rw [e]; exact vd_mem hD1 h)
    · exact vd_cross hD hp (List.mem_append_right _ h)
theorem wW.eq {G : gT} {A : Nat → Prop} {H0 H : Heap} {ws ws' : va_W} {locs : List Loc} (e : ws = ws') (h : wW G A H0 ws H locs) : wW G A H0 ws' H locs := e ▸ h
/-! rows -/
section ROWS
variable {p : Program} {l : Launch} {e : Env} {R : Room} {s : State} {m : MethodId} {args : Array Value} {below : List Frame} {meth : Method} {c : Code} {H : Heap} {locs : List Loc} {cells slots : Nat} {Q : State → Prop}
variable {cc : ByteArray} {pc : Nat} {ls : Array Slot} {rest : List Value} {A : Nat → Prop} {H0 : Heap} {ws : va_W} {G : gT}
theorem r_get (hx : p.tables.exec = Jvm.exec) (hb : c.code = cc) {own ref C : String} {T : u_T} {N ci index : Nat} {Ts : List Cond} (hts : ∀ w ∈ Ts, w.before args s = true) (hin : ∀ w ∈ u_ws C T N, w ∈ Ts) (hown : s.vm.findClass own = some m.cls) (hK : wK G s) (hw : wW G A H0 ws H locs) (q0 : Nat) {a : Nat} {fs : List Value} (he : ws[q0]? = some (a, .inr (ci, fs))) (hc : vwCl[ci]? = some (C, T, N)) (k : Nat) (hk : k < N) (hlink : Cond.fieldLink own index ref (T k).2.1 (T k).2.2.1 ∈ Ts) (hsame : ∀ x, s.fieldFound? (T k).1 (T k).2.1 (T k).2.2.1 = some x → s.fieldFound? ref (T k).2.1 (T k).2.2.1 = some x) {v : Value} (hv : fs[k]? = some v) (hdg : decode cc pc = .ok (.getfield index, 3))
    (kk : W p l e R s m args below meth c H locs cells slots Q (F0 m (pc + 3) ls (v :: rest))) : W p l e R s m args below meth c H locs cells slots Q (F0 m pc ls (.ref a :: rest)) :=
  va_get hx hb hts hin hown hK hw.1 q0 he hc k hk (hts _ hlink) hsame hv hdg kk
theorem r_put (hx : p.tables.exec = Jvm.exec) (hb : c.code = cc) {own ref C : String} {T : u_T} {N ci index : Nat} {Ts : List Cond} (hts : ∀ w ∈ Ts, w.before args s = true) (hin : ∀ w ∈ u_ws C T N, w ∈ Ts) (ty0 : Nat → FieldType) (hty : ∀ k, k < N → parseFieldDescriptor (T k).2.2.1 = some (ty0 k)) (hnm : ∀ a, a < N → ∀ b, b < N → a ≠ b → (T a).2.1 ≠ (T b).2.1) (hown : s.vm.findClass own = some m.cls) (hK : wK G s) (hw : wW G A H0 ws H locs) (q0 : Nat) {a : Nat} {fs : List Value} (he : ws[q0]? = some (a, .inr (ci, fs))) (hc : vwCl[ci]? = some (C, T, N)) (k : Nat) (hk : k < N) (hlink : Cond.fieldLink own index ref (T k).2.1 (T k).2.2.1 ∈ Ts) (hsame : ∀ x, s.fieldFound? (T k).1 (T k).2.1 (T k).2.2.1 = some x → s.fieldFound? ref (T k).2.1 (T k).2.2.1 = some x) (hfin : (T k).2.2.2 = false) {ty : FieldType} {v : Value} (hd : parseFieldDescriptor (T k).2.2.1 = some ty) (hn : narrow ty v = v) (hfit : fits ty v = true) (hl : k < fs.length)
    (hdg : decode cc pc = .ok (.putfield index, 3)) {ws' : va_W} (hs : ws.set q0 (a, .inr (ci, fs.set k v)) = ws') (kk : ∀ (H1 : Heap) (locs1 : List Loc), wW G A H0 ws' H1 locs1 → W p l e R s m args below meth c H1 locs1 cells slots Q (F0 m (pc + 3) ls rest)) : W p l e R s m args below meth c H locs cells slots Q (F0 m pc ls (v :: .ref a :: rest)) :=
  va_put hx hb hts hin ty0 hty hnm hown hK hw.1 hw.2.1 hw.2.2 q0 he hc k hk (hts _ hlink) hsame hfin hd hn hfit hl hdg fun H1 locs1 h1 h2 h3 => kk H1 locs1 (wW.eq hs ⟨h1, h2, h3⟩)
theorem r_putF (hx : p.tables.exec = Jvm.exec) (hb : c.code = cc) {own ref C : String} {T : u_T} {N ci index : Nat} {Ts : List Cond} (hts : ∀ w ∈ Ts, w.before args s = true) (hin : ∀ w ∈ u_ws C T N, w ∈ Ts) (ty0 : Nat → FieldType) (hty : ∀ k, k < N → parseFieldDescriptor (T k).2.2.1 = some (ty0 k)) (hnm : ∀ a, a < N → ∀ b, b < N → a ≠ b → (T a).2.1 ≠ (T b).2.1) (hown : s.vm.findClass own = some m.cls) (hK : wK G s) (hw : wW G A H0 ws H locs) (q0 : Nat) {a : Nat} {fs : List Value} (he : ws[q0]? = some (a, .inr (ci, fs))) (hc : vwCl[ci]? = some (C, T, N)) (k : Nat) (hk : k < N) (hlink : Cond.fieldLink own index ref (T k).2.1 (T k).2.2.1 ∈ Ts) (hsame : ∀ x, s.fieldFound? (T k).1 (T k).2.1 (T k).2.2.1 = some x → s.fieldFound? ref (T k).2.1 (T k).2.2.1 = some x) (hfin : (T k).2.2.2 = true) (hin2 : meth.name = "<init>") (hdecl : (T k).1 = own) {ty : FieldType} {v : Value} (hd : parseFieldDescriptor (T k).2.2.1 = some ty) (hn : narrow ty v = v) (hfit : fits ty v = true) (hl : k < fs.length)
    (hdg : decode cc pc = .ok (.putfield index, 3)) {ws' : va_W} (hs : ws.set q0 (a, .inr (ci, fs.set k v)) = ws') (kk : ∀ (H1 : Heap) (locs1 : List Loc), wW G A H0 ws' H1 locs1 → W p l e R s m args below meth c H1 locs1 cells slots Q (F0 m (pc + 3) ls rest)) : W p l e R s m args below meth c H locs cells slots Q (F0 m pc ls (v :: .ref a :: rest)) :=
  va_putF hx hb hts hin ty0 hty hnm hown hK hw.1 hw.2.1 hw.2.2 q0 he hc k hk (hts _ hlink) hsame hfin hin2 hdecl hd hn hfit hl hdg fun H1 locs1 h1 h2 h3 => kk H1 locs1 (wW.eq hs ⟨h1, h2, h3⟩)
theorem r_iald (hx : p.tables.exec = Jvm.exec) (hb : c.code = cc) (hK : wK G s) (hw : wW G A H0 ws H locs) (q0 : Nat) {a n : Nat} {f : Nat → Int32} (ha : ws[q0]? = some (a, .inl (gI G, n, .inl f))) {x : Int32} (i : Nat) (hi : x = nI i) (hin : i < n) (hN : n < 2 ^ 31) {v : Int32} (hv : f i = v) (hdg : decode cc pc = .ok (.iaload, 1))
    (kk : W p l e R s m args below meth c H locs cells slots Q (F0 m (pc + 1) ls (.int v :: rest))) : W p l e R s m args below meth c H locs cells slots Q (F0 m pc ls (.int x :: .ref a :: rest)) := by
  subst hi
  subst hv
  refine va_iald hx hb hK hw.1 q0 0 ha rfl (vp_in_nI hin hN) hdg ?_
  rw [nI_clamp (Nat.lt_trans hin hN)]
  exact kk
theorem r_zald (hx : p.tables.exec = Jvm.exec) (hb : c.code = cc) (hK : wK G s) (hw : wW G A H0 ws H locs) (q0 : Nat) {a n : Nat} {f : Nat → Int32} (ha : ws[q0]? = some (a, .inl (gZ G, n, .inl f))) {x : Int32} (i : Nat) (hi : x = nI i) (hin : i < n) (hN : n < 2 ^ 31) {v : Int32} (hv : f i = v) (hdg : decode cc pc = .ok (.baload, 1))
    (kk : W p l e R s m args below meth c H locs cells slots Q (F0 m (pc + 1) ls (.int v :: rest))) : W p l e R s m args below meth c H locs cells slots Q (F0 m pc ls (.int x :: .ref a :: rest)) := by
  subst hi
  subst hv
  refine va_zald hx hb hK hw.1 q0 1 ha rfl (vp_in_nI hin hN) hdg ?_
  rw [nI_clamp (Nat.lt_trans hin hN)]
  exact kk
theorem r_lald (hx : p.tables.exec = Jvm.exec) (hb : c.code = cc) (hK : wK G s) (hw : wW G A H0 ws H locs) (q0 : Nat) {a n : Nat} {f : Nat → Int64} (ha : ws[q0]? = some (a, .inl (gJ G, n, .inr (.inl f)))) {x : Int32} (i : Nat) (hi : x = nI i) (hin : i < n) (hN : n < 2 ^ 31) {v : Int64} (hv : f i = v) (hdg : decode cc pc = .ok (.laload, 1))
    (kk : W p l e R s m args below meth c H locs cells slots Q (F0 m (pc + 1) ls (.long v :: rest))) : W p l e R s m args below meth c H locs cells slots Q (F0 m pc ls (.int x :: .ref a :: rest)) := by
  subst hi
  subst hv
  refine va_lald hx hb hK hw.1 q0 4 ha rfl (vp_in_nI hin hN) hdg ?_
  rw [nI_clamp (Nat.lt_trans hin hN)]
  exact kk
theorem r_aldB (hx : p.tables.exec = Jvm.exec) (hb : c.code = cc) (hK : wK G s) (hw : wW G A H0 ws H locs) (q0 : Nat) {a n : Nat} {f : Nat → Option Nat} (ha : ws[q0]? = some (a, .inl (gB G, n, .inr (.inr (.inr (.inr f)))))) {x : Int32} (i : Nat) (hi : x = nI i) (hin : i < n) (hN : n < 2 ^ 31) {v : Nat} (hv : f i = some v) (hdg : decode cc pc = .ok (.aaload, 1))
    (kk : W p l e R s m args below meth c H locs cells slots Q (F0 m (pc + 1) ls (.ref v :: rest))) : W p l e R s m args below meth c H locs cells slots Q (F0 m pc ls (.int x :: .ref a :: rest)) := by
  subst hi
  refine va_aldq hx hb hK hw.1 q0 2 ha rfl (vp_in_nI hin hN) hdg ?_
  rw [nI_clamp (Nat.lt_trans hin hN), hv]
  exact kk
theorem r_aldM (hx : p.tables.exec = Jvm.exec) (hb : c.code = cc) (hK : wK G s) (hw : wW G A H0 ws H locs) (q0 : Nat) {a n : Nat} {f : Nat → Option Nat} (ha : ws[q0]? = some (a, .inl (gM G, n, .inr (.inr (.inr (.inr f)))))) {x : Int32} (i : Nat) (hi : x = nI i) (hin : i < n) (hN : n < 2 ^ 31) {v : Nat} (hv : f i = some v) (hdg : decode cc pc = .ok (.aaload, 1))
    (kk : W p l e R s m args below meth c H locs cells slots Q (F0 m (pc + 1) ls (.ref v :: rest))) : W p l e R s m args below meth c H locs cells slots Q (F0 m pc ls (.int x :: .ref a :: rest)) := by
  subst hi
  have hin' := vp_in_nI hin hN
  have hcl : (nI i).toNatClampNeg = i := nI_clamp (Nat.lt_trans hin hN)
  refine W.aald (v := va_rf (f (nI i).toNatClampNeg)) (ty := .array .int) hx hb (hw.1 q0 _ ha) ((hK.2 3 _ rfl).1 n (fun j => va_rf (f j))) rfl (fun q => by cases q) (by show ¬ (nI i < 0 ∨ (arrV _ _ _).slots.size ≤ _); rw [arrV_size]; exact hin') (by show (arrV _ _ _).slots[_]? = _; rw [arrV_read _ _ (by rw [hcl]; exact hin)]) rfl rfl hdg ?_
  rw [hcl, hv]
  exact kk
theorem r_iast (hx : p.tables.exec = Jvm.exec) (hb : c.code = cc) (hK : wK G s) (hw : wW G A H0 ws H locs) (q0 : Nat) {a n : Nat} {f : Nat → Int32} (ha : ws[q0]? = some (a, .inl (gI G, n, .inl f))) {x v : Int32} (i : Nat) (hi : x = nI i) (hin : i < n) (hN : n < 2 ^ 31) (hdg : decode cc pc = .ok (.iastore, 1)) {ws' : va_W} (hs : ws.set q0 (a, .inl (gI G, n, .inl (upd f i v))) = ws')
    (kk : ∀ (H1 : Heap) (locs1 : List Loc), wW G A H0 ws' H1 locs1 → W p l e R s m args below meth c H1 locs1 cells slots Q (F0 m (pc + 1) ls rest)) : W p l e R s m args below meth c H locs cells slots Q (F0 m pc ls (.int v :: .int x :: .ref a :: rest)) := by
  subst hi
  refine va_iast hx hb hK hw.1 hw.2.1 hw.2.2 q0 0 ha rfl (vp_in_nI hin hN) hdg fun H1 locs1 h1 h2 h3 => ?_
  rw [nI_clamp (Nat.lt_trans hin hN)] at h1 h2
  exact kk H1 locs1 (wW.eq hs ⟨h1, h2, h3⟩)
theorem r_zast (hx : p.tables.exec = Jvm.exec) (hb : c.code = cc) (hK : wK G s) (hw : wW G A H0 ws H locs) (q0 : Nat) {a n : Nat} {f : Nat → Int32} (ha : ws[q0]? = some (a, .inl (gZ G, n, .inl f))) {x v : Int32} (i : Nat) (hi : x = nI i) (hin : i < n) (hN : n < 2 ^ 31) (hv : vp_nar .boolean v = v) (hdg : decode cc pc = .ok (.bastore, 1)) {ws' : va_W} (hs : ws.set q0 (a, .inl (gZ G, n, .inl (upd f i v))) = ws')
    (kk : ∀ (H1 : Heap) (locs1 : List Loc), wW G A H0 ws' H1 locs1 → W p l e R s m args below meth c H1 locs1 cells slots Q (F0 m (pc + 1) ls rest)) : W p l e R s m args below meth c H locs cells slots Q (F0 m pc ls (.int v :: .int x :: .ref a :: rest)) := by
  subst hi
  refine va_zast hx hb hK hw.1 hw.2.1 hw.2.2 q0 1 ha rfl (vp_in_nI hin hN) hdg fun H1 locs1 h1 h2 h3 => ?_
  rw [nI_clamp (Nat.lt_trans hin hN), hv] at h1 h2
  exact kk H1 locs1 (wW.eq hs ⟨h1, h2, h3⟩)
theorem r_last (hx : p.tables.exec = Jvm.exec) (hb : c.code = cc) (hK : wK G s) (hw : wW G A H0 ws H locs) (q0 : Nat) {a n : Nat} {f : Nat → Int64} (ha : ws[q0]? = some (a, .inl (gJ G, n, .inr (.inl f)))) {x : Int32} {v : Int64} (i : Nat) (hi : x = nI i) (hin : i < n) (hN : n < 2 ^ 31) (hdg : decode cc pc = .ok (.lastore, 1)) {ws' : va_W} (hs : ws.set q0 (a, .inl (gJ G, n, .inr (.inl (vp_updL f i v)))) = ws')
    (kk : ∀ (H1 : Heap) (locs1 : List Loc), wW G A H0 ws' H1 locs1 → W p l e R s m args below meth c H1 locs1 cells slots Q (F0 m (pc + 1) ls rest)) : W p l e R s m args below meth c H locs cells slots Q (F0 m pc ls (.long v :: .int x :: .ref a :: rest)) := by
  subst hi
  refine va_last hx hb hK hw.1 hw.2.1 hw.2.2 q0 4 ha rfl (vp_in_nI hin hN) hdg fun H1 locs1 h1 h2 h3 => ?_
  rw [nI_clamp (Nat.lt_trans hin hN)] at h1 h2
  exact kk H1 locs1 (wW.eq hs ⟨h1, h2, h3⟩)
/-- another name for the number on top -/
theorem r_top {x y : Int32} (e0 : x = y) (k : W p l e R s m args below meth c H locs cells slots Q (F0 m pc ls (.int y :: rest))) : W p l e R s m args below meth c H locs cells slots Q (F0 m pc ls (.int x :: rest)) := e0 ▸ k
theorem r_topL {x y : Int64} (e0 : x = y) (k : W p l e R s m args below meth c H locs cells slots Q (F0 m pc ls (.long y :: rest))) : W p l e R s m args below meth c H locs cells slots Q (F0 m pc ls (.long x :: rest)) := e0 ▸ k
theorem r_w {ws ws' : va_W} (hw : wW G A H0 ws H locs) (e0 : ws = ws') (k : wW G A H0 ws' H locs → W p l e R s m args below meth c H locs cells slots Q (F0 m pc ls rest)) : W p l e R s m args below meth c H locs cells slots Q (F0 m pc ls rest) := k (wW.eq e0 hw)
theorem r_calli {u w v w1 : va_W} {res : Int32} {mc ms k n : Nat} {st0 : List Value} {a : Array Value}
    (hr : va_Run p l e R s m args below meth c H locs cells slots mc ms (F0 m pc ls st0) rest (va_Qi (fun (r : Int32) (_ : Unit) => r = res) (fun _ t => wPost G (va_A w H.size) w1 t) (va_A w H.size) a) (va_A w H.size))
    (hw : wW G A H0 (u ++ (w ++ v)) H locs) (hA : ∀ q, H0.size ≤ q → A q) (hk : cells + mc = k) (hn : slots + ms = n)
    (kk : ∀ (H1 : Heap) (locs1 : List Loc), wW G A H0 (u ++ (w1 ++ v)) H1 locs1 → W p l e R s m args below meth c H1 locs1 k n Q (F0 m (pc + 3) ls (.int res :: rest))) : W p l e R s m args below meth c H locs cells slots Q (F0 m pc ls st0) := by
  subst hk
  subst hn
  refine va_calli hr hw.2.2 (fun q _ h => w_free hw hA q h) (w_free hw hA) fun r _ t H1 locs1 ht hvm hr hB _ hk1 hS => ?_
  subst hr
  obtain ⟨hP1, -, hD1⟩ := hB
  rw [ht] at hP1
  exact kk H1 locs1 (w_join hw hA hk1 hS hP1 hD1)
theorem r_calll {u w v w1 : va_W} {res : Int64} {mc ms k n : Nat} {st0 : List Value} {a : Array Value}
    (hr : va_Run p l e R s m args below meth c H locs cells slots mc ms (F0 m pc ls st0) rest (va_Ql (fun (r : Int64) (_ : Unit) => r = res) (fun _ t => wPost G (va_A w H.size) w1 t) (va_A w H.size) a) (va_A w H.size))
    (hw : wW G A H0 (u ++ (w ++ v)) H locs) (hA : ∀ q, H0.size ≤ q → A q) (hk : cells + mc = k) (hn : slots + ms = n)
    (kk : ∀ (H1 : Heap) (locs1 : List Loc), wW G A H0 (u ++ (w1 ++ v)) H1 locs1 → W p l e R s m args below meth c H1 locs1 k n Q (F0 m (pc + 3) ls (.long res :: rest))) : W p l e R s m args below meth c H locs cells slots Q (F0 m pc ls st0) := by
  subst hk
  subst hn
  refine va_calll hr hw.2.2 (fun q _ h => w_free hw hA q h) (w_free hw hA) fun r _ t H1 locs1 ht hvm hr hB _ hk1 hS => ?_
  subst hr
  obtain ⟨hP1, -, hD1⟩ := hB
  rw [ht] at hP1
  exact kk H1 locs1 (w_join hw hA hk1 hS hP1 hD1)
theorem r_callv {u w v w1 : va_W} {mc ms k n : Nat} {st0 : List Value} {a : Array Value}
    (hr : va_Run p l e R s m args below meth c H locs cells slots mc ms (F0 m pc ls st0) rest (va_Qv (fun (_ : Unit) => True) (fun _ t => wPost G (va_A w H.size) w1 t) (va_A w H.size) a) (va_A w H.size))
    (hw : wW G A H0 (u ++ (w ++ v)) H locs) (hA : ∀ q, H0.size ≤ q → A q) (hk : cells + mc = k) (hn : slots + ms = n)
    (kk : ∀ (H1 : Heap) (locs1 : List Loc), wW G A H0 (u ++ (w1 ++ v)) H1 locs1 → W p l e R s m args below meth c H1 locs1 k n Q (F0 m (pc + 3) ls rest)) : W p l e R s m args below meth c H locs cells slots Q (F0 m pc ls st0) := by
  subst hk
  subst hn
  refine va_callv hr hw.2.2 (fun q _ h => w_free hw hA q h) (w_free hw hA) fun _ t H1 locs1 ht hvm _ hB _ hk1 hS => ?_
  obtain ⟨hP1, -, hD1⟩ := hB
  rw [ht] at hP1
  exact kk H1 locs1 (w_join hw hA hk1 hS hP1 hD1)
theorem r_callc {S : Type} {u w v : va_W} {w1 : S → va_W} {mc ms k n : Nat} {st0 : List Value} {a : Array Value}
    (hr : va_Run p l e R s m args below meth c H locs cells slots mc ms (F0 m pc ls st0) rest (va_Qv (fun (_ : S) => True) (fun z t => wPost G (va_A w H.size) (w1 z) t) (va_A w H.size) a) (va_A w H.size))
    (hw : wW G A H0 (u ++ (w ++ v)) H locs) (hA : ∀ q, H0.size ≤ q → A q) (hk : cells + mc = k) (hn : slots + ms = n)
    (kk : ∀ (z : S) (H1 : Heap) (locs1 : List Loc), wW G A H0 (u ++ (w1 z ++ v)) H1 locs1 → W p l e R s m args below meth c H1 locs1 k n Q (F0 m (pc + 3) ls rest)) : W p l e R s m args below meth c H locs cells slots Q (F0 m pc ls st0) := by
  subst hk
  subst hn
  refine va_callv hr hw.2.2 (fun q _ h => w_free hw hA q h) (w_free hw hA) fun z t H1 locs1 ht hvm _ hB _ hk1 hS => ?_
  obtain ⟨hP1, -, hD1⟩ := hB
  rw [ht] at hP1
  exact kk z H1 locs1 (w_join hw hA hk1 hS hP1 hD1)
theorem r_callr {u w v w1 : va_W} {res : Nat} {mc ms k n : Nat} {st0 : List Value} {a : Array Value}
    (hr : va_Run p l e R s m args below meth c H locs cells slots mc ms (F0 m pc ls st0) rest (va_Qr (fun (_ : Unit) => True) (fun _ z t => z = res ∧ wPost G (va_A w H.size) w1 t) (va_A w H.size) a) (va_A w H.size))
    (hw : wW G A H0 (u ++ (w ++ v)) H locs) (hA : ∀ q, H0.size ≤ q → A q) (hk : cells + mc = k) (hn : slots + ms = n)
    (kk : ∀ (H1 : Heap) (locs1 : List Loc), wW G A H0 (u ++ (w1 ++ v)) H1 locs1 → W p l e R s m args below meth c H1 locs1 k n Q (F0 m (pc + 3) ls (.ref res :: rest))) : W p l e R s m args below meth c H locs cells slots Q (F0 m pc ls st0) := by
  subst hk
  subst hn
  refine va_callr hr hw.2.2 (fun q _ h => w_free hw hA q h) (w_free hw hA) fun _ ra t H1 locs1 ht hvm _ hB _ hk1 hS => ?_
  obtain ⟨rfl, hP1, -, hD1⟩ := hB
  rw [ht] at hP1
  exact kk H1 locs1 (w_join hw hA hk1 hS hP1 hD1)
/-- what a callee asks for at its start -/
theorem r_preS {As : List Value} {u w v : va_W} (hK : wK G s) (hw : wW G A H0 (u ++ (w ++ v)) H locs) : PreS s H (va_Pc As (wPre G w H.size)) As :=
  ⟨wPre.blind, fun U hU hW => ⟨rfl, by rw [hU], by rw [hU]; exact (w_cut hw).1, wK.moved hW.alike hK, (w_cut hw).2⟩⟩
theorem r_preV {As : List Value} {u w v : va_W} {b q0 ci : Nat} {fs : List Value} {r : vw_C} {C : String} (hK : wK G s) (hw : wW G A H0 (u ++ (w ++ v)) H locs) (hb0 : (u ++ (w ++ v))[q0]? = some (b, .inr (ci, fs))) (hc0 : vwCl[ci]? = some r) (hC : r.1 = C) : PreV s H C b (va_Pc (.ref b :: As) (wPre G w H.size)) As :=
  ⟨wPre.blind, by rw [← hC]; exact va_recv hK hw.1 (ci := ci) (q0 := q0) hc0 hb0, fun U hU hW => ⟨rfl, by rw [hU], by rw [hU]; exact (w_cut hw).1, wK.moved hW.alike hK, (w_cut hw).2⟩⟩
/-! a method's end -/
theorem m_iret {res v : Int32} {w1 : va_W} {mc ms : Nat} (hx : p.tables.exec = Jvm.exec) (hb : c.code = cc) (hr : meth.sig.returnType = some .int) (hlocks : meth.locks = false) (hK : wK G s) (hw : wW G A s.heap ws H locs) (hc : cells ≤ mc) (hs : slots ≤ ms) (hdg : decode cc pc = .ok (.ireturn, 1)) (hres : v = res) (hws : ws = w1) :
    W p l e R s m args below meth c H locs cells slots (MQ below (va_Qi (fun (r : Int32) (_ : Unit) => r = res) (fun _ t => wPost G A w1 t) A) args s mc ms A) (F0 m pc ls [.int v]) := by
  subst hws
  refine W.widen hc hs ?_
  exact W.iret hx hb hr (fun t ht hW => ⟨⟨v, (), rfl, hres, by rw [ht]; exact hw.1, wK.moved hW.alike hK, hw.2.1⟩, hw.2.2.F ht⟩) hw.2.2.2.2 hdg hlocks
theorem m_zret {res v : Int32} {w1 : va_W} {mc ms : Nat} (hx : p.tables.exec = Jvm.exec) (hb : c.code = cc) (hr : meth.sig.returnType = some .boolean) (hlocks : meth.locks = false) (hK : wK G s) (hw : wW G A s.heap ws H locs) (hc : cells ≤ mc) (hs : slots ≤ ms) (hdg : decode cc pc = .ok (.ireturn, 1)) (hv : narrow .boolean (.int v) = .int v) (hres : v = res) (hws : ws = w1) :
    W p l e R s m args below meth c H locs cells slots (MQ below (va_Qi (fun (r : Int32) (_ : Unit) => r = res) (fun _ t => wPost G A w1 t) A) args s mc ms A) (F0 m pc ls [.int v]) := by
  subst hws
  refine W.widen hc hs ?_
  exact W.zret hx hb hr hv (fun t ht hW => ⟨⟨v, (), rfl, hres, by rw [ht]; exact hw.1, wK.moved hW.alike hK, hw.2.1⟩, hw.2.2.F ht⟩) hw.2.2.2.2 hdg
theorem m_lret {res v : Int64} {w1 : va_W} {mc ms : Nat} (hx : p.tables.exec = Jvm.exec) (hb : c.code = cc) (hr : meth.sig.returnType = some .long) (hlocks : meth.locks = false) (hK : wK G s) (hw : wW G A s.heap ws H locs) (hc : cells ≤ mc) (hs : slots ≤ ms) (hdg : decode cc pc = .ok (.lreturn, 1)) (hres : v = res) (hws : ws = w1) :
    W p l e R s m args below meth c H locs cells slots (MQ below (va_Ql (fun (r : Int64) (_ : Unit) => r = res) (fun _ t => wPost G A w1 t) A) args s mc ms A) (F0 m pc ls [.long v]) := by
  subst hws
  refine W.widen hc hs ?_
  exact W.lret hx hb hr (fun t ht hW => ⟨⟨v, (), rfl, hres, by rw [ht]; exact hw.1, wK.moved hW.alike hK, hw.2.1⟩, hw.2.2.F ht⟩) hw.2.2.2.2 hdg
theorem m_vret {w1 : va_W} {mc ms : Nat} (hx : p.tables.exec = Jvm.exec) (hb : c.code = cc) (hr : meth.sig.returnType = none) (hlocks : meth.locks = false) (hK : wK G s) (hw : wW G A s.heap ws H locs) (hc : cells ≤ mc) (hs : slots ≤ ms) (hdg : decode cc pc = .ok (.return_, 1)) (hws : ws = w1) :
    W p l e R s m args below meth c H locs cells slots (MQ below (va_Qv (fun (_ : Unit) => True) (fun _ t => wPost G A w1 t) A) args s mc ms A) (F0 m pc ls []) := by
  subst hws
  refine W.widen hc hs ?_
  exact W.vret hx hb hr (fun t ht hW => ⟨⟨(), rfl, trivial, by rw [ht]; exact hw.1, wK.moved hW.alike hK, hw.2.1⟩, hw.2.2.F ht⟩) hw.2.2.2.2 hdg
theorem m_cret {S : Type} {w1 : S → va_W} {mc ms : Nat} (hx : p.tables.exec = Jvm.exec) (hb : c.code = cc) (hr : meth.sig.returnType = none) (hlocks : meth.locks = false) (hK : wK G s) (hw : wW G A s.heap ws H locs) (hc : cells ≤ mc) (hs : slots ≤ ms) (hdg : decode cc pc = .ok (.return_, 1)) (z : S) (hws : ws = w1 z) :
    W p l e R s m args below meth c H locs cells slots (MQ below (va_Qv (fun (_ : S) => True) (fun u t => wPost G A (w1 u) t) A) args s mc ms A) (F0 m pc ls []) := by
  subst hws
  refine W.widen hc hs ?_
  exact W.vret hx hb hr (fun t ht hW => ⟨⟨z, rfl, trivial, by rw [ht]; exact hw.1, wK.moved hW.alike hK, hw.2.1⟩, hw.2.2.F ht⟩) hw.2.2.2.2 hdg
theorem m_rret {res v : Nat} {rt : FieldType} {w1 : va_W} {mc ms : Nat} (hx : p.tables.exec = Jvm.exec) (hb : c.code = cc) (hr : meth.sig.returnType = some rt) (hrt : (∃ n, rt = .object n) ∨ ∃ t, rt = .array t) (hlocks : meth.locks = false) (hK : wK G s) (hw : wW G A s.heap ws H locs) (hc : cells ≤ mc) (hs : slots ≤ ms) (hdg : decode cc pc = .ok (.areturn, 1)) (hres : v = res) (hws : ws = w1) :
    W p l e R s m args below meth c H locs cells slots (MQ below (va_Qr (fun (_ : Unit) => True) (fun _ z t => z = res ∧ wPost G A w1 t) A) args s mc ms A) (F0 m pc ls [.ref v]) := by
  subst hws
  refine W.widen hc hs ?_
  exact W.aret hx hb hr hrt (Or.inr ⟨v, rfl⟩) (fun t ht hW => ⟨⟨(), v, rfl, trivial, hres, by rw [ht]; exact hw.1, wK.moved hW.alike hK, hw.2.1⟩, hw.2.2.F ht⟩) hw.2.2.2.2 hdg
end ROWS
/-- a method's start -/
theorem m_of {l : Launch} {y : MethodName} {wl wl' : List Cond} {rm : Room} {G : gT} {as : List Value} {w : va_W} {sz : Nat} {Qc : (Nat → Prop) → Array Value → State → Outcome → State → Prop} {mc ms : Nat} {cc : ByteArray} {maxL : Nat} {ret : Option FieldType} (hy : plainName y.cls = true) (hw : wl = Cond.code y cc maxL ret :: wl') (hn : (lg_sl as).length ≤ maxL)
    (body : ∀ (p : Program) (e : Env) (s : State) (m : MethodId) (A : Nat → Prop) (below : List Frame) (meth : Method) (c : Code) (H : Heap) (locs : List Loc) (ls : Array Slot), p.tables.exec = Jvm.exec → c.code = cc → meth.sig.returnType = ret → (∀ x ∈ wl, x.before as.toArray s = true) → s.vm.findClass y.cls = some m.cls → meth.locks = false → meth.name = y.name → c.maxLocals = maxL → wK G s → (∀ q : Nat, s.heap.size ≤ q → A q) → wW G A s.heap w H locs → lv_has ls maxL (lv_args 0 as) →
      W p l e rm s m as.toArray below meth c H locs 0 0 (MQ below (Qc A) as.toArray s mc ms A) (F0 m 0 ls [])) : Met l y wl rm (va_Pc as (wPre G w sz)) (Qc (va_A w sz)) mc ms (va_A w sz) := by
  refine Met.ofW (cc := cc) (maxL := maxL) (ret := ret) hy hw ?_
  intro p e s m args below meth c s₁ B hml hv
  obtain ⟨rfl, hsz, hP, hK, hD0⟩ := hv
  have hl := lv_entry as (n := maxL) hn
  rw [lg_entry_eq]
  generalize (lg_sl as ++ List.replicate (maxL - (lg_sl as).length) Slot.unset).toArray = ls at hl ⊢
  exact body p e s m _ below meth c _ _ ls B.exec B.bytes B.returns (atoms_spec (ws := wl) B.pre) (findClass_of_methodNamed B.named) B.notSynchronized (name_of_methodNamed B.named B.method).1 hml hK (fun q h => Or.inr (by rw [← hsz]; exact h)) ⟨hP, hD0.self, va_S.rf⟩ hl
/-- an array of Nats, one changed -/
def updN (o : Nat → Nat) (k v : Nat) : Nat → Nat := fun j => if j = k then v else o j
theorem upd_nI (o : Nat → Nat) (k v : Nat) : upd (fun j => nI (o j)) k (nI v) = fun j => nI (updN o k v j) := by
  funext j
  by_cases h : j = k <;> simp [upd, updN, h]
section ROWC
variable {p : Program} {l : Launch} {e : Env} {R : Room} {s : State} {m : MethodId} {args : Array Value} {below : List Frame} {meth : Method} {c : Code} {H : Heap} {locs : List Loc} {cells slots : Nat} {Q : State → Prop}
variable {cc : ByteArray} {pc : Nat} {ls : Array Slot} {rest : List Value} {A : Nat → Prop} {H0 : Heap} {ws : va_W} {G : gT}
theorem r_copyi (hx : p.tables.exec = Jvm.exec) (hb : c.code = cc) (hml : c.maxLocals = ls.size) {own : String} {index : Nat} (hown : s.vm.findClass own = some m.cls) (hlink : (Cond.methodLink own index arraycopyName).before args s = true) (hnat : (Cond.native arraycopyName).before args s = true) (hstat : (Cond.static arraycopyName).before args s = true) (hini : (Cond.initialized "java/lang/System").before args s = true)
    (hK : wK G s) (hw : wW G A H0 ws H locs) (q0 q1 : Nat) {a a0 n0 n1 : Nat} {f g : Nat → Int32} (ha0 : ws[q0]? = some (a0, .inl (gI G, n0, .inl f))) (ha1 : ws[q1]? = some (a, .inl (gI G, n1, .inl g)))
    {x y z : Int32} {sp dp n : Nat} (e1 : x = nI sp) (e2 : y = nI dp) (e3 : z = nI n) (h4 : sp + n ≤ n0) (h5 : dp + n ≤ n1) (b0 : n0 < 2 ^ 31) (b1 : n1 < 2 ^ 31)
    (hframes : 1 ≤ R.frames) (hlocals : (rest.map fun v => v.category).sum + (nativeFrameWords "java/lang/System" "arraycopy" 5 + 11) ≤ R.locals) (hdg : decode cc pc = .ok (.invokestatic index, 3)) {ws' : va_W} (hs : ws.set q1 (a, .inl (gI G, n1, .inl (va_cpy f g sp dp n))) = ws')
    (kk : ∀ (H1 : Heap) (locs1 : List Loc), wW G A H0 ws' H1 locs1 → W p l e R s m args below meth c H1 locs1 cells slots Q (F0 m (pc + 3) ls rest)) : W p l e R s m args below meth c H locs cells slots Q (F0 m pc ls (.int z :: .int y :: .ref a :: .int x :: .ref a0 :: rest)) := by
  subst e1
  subst e2
  subst e3
  have c1 : (nI sp).toNatClampNeg = sp := nI_clamp (by omega)
  have c2 : (nI dp).toNatClampNeg = dp := nI_clamp (by omega)
  have c3 : (nI n).toNatClampNeg = n := nI_clamp (by omega)
  refine va_copyi (ty := .int) hx hb hml hown hlink hnat hstat hini hK hw.1 hw.2.1 hw.2.2 q0 q1 0 0 ha0 ha1 rfl rfl rfl (nI_pos (by omega)) (nI_pos (by omega)) (nI_pos (by omega)) (by rw [c1, c3]; exact h4) (by rw [c2, c3]; exact h5) (fun _ _ => rfl) hframes hlocals hdg fun H1 locs1 h1 h2 h3 => ?_
  rw [c1, c2, c3] at h1 h2
  exact kk H1 locs1 (wW.eq hs ⟨h1, h2, h3⟩)
end ROWC
def iMin (x y : Int32) : Int32 := if y < x then y else x
def iMax (x y : Int32) : Int32 := if x < y then y else x
end
section
/-! the worlds: what the cells of each part of the sketch and of the check hold -/
/-- hint, freeGroups, group, place -/
abbrev tAx : Type := (Nat → Int32) × Int32 × (Nat → Int32) × (Nat → Int32)
abbrev aAx : Type := Nat × Nat × Nat × Nat
def wAx (G : gT) (a : aAx) (x : tAx) : va_W := [(a.1, .inr (0, [.ref a.2.1, .int x.2.1, .ref a.2.2.1, .ref a.2.2.2])), (a.2.1, .inl (gI G, 16, .inl x.1)), (a.2.2.1, .inl (gI G, 17, .inl x.2.2.1)), (a.2.2.2, .inl (gI G, 17, .inl x.2.2.2))]
/-- points, settled -/
abbrev tOb : Type := Nat × Int32
abbrev aOb : Type := Nat × Nat × Nat × Nat × Nat
def wOb (G : gT) (a : aOb) (o : tOb) : va_W := [(a.1, .inr (4, [.ref a.2.1, .ref a.2.2.1, .ref a.2.2.2.1, .ref a.2.2.2.2, .int (nI o.1), .int o.2]))]
/-- count, kind, one, other, size, state, told -/
abbrev tRw : Type := Nat × (Nat → Int32) × (Nat → Nat) × (Nat → Nat) × (Nat → Int32) × (Nat → Int32) × (Nat → Nat → Int32)
abbrev aRw : Type := Nat × Nat × Nat × Nat × Nat × Nat × Nat × (Nat → Nat)
def wRw (G : gT) (a : aRw) (r : tRw) : va_W := [(a.1, .inr (3, [.int (nI r.1), .ref a.2.1, .ref a.2.2.1, .ref a.2.2.2.1, .ref a.2.2.2.2.1, .ref a.2.2.2.2.2.1, .ref a.2.2.2.2.2.2.1])), (a.2.1, .inl (gI G, 40, .inl r.2.1)), (a.2.2.1, .inl (gI G, 40, .inl (fun j => nI (r.2.2.1 j)))), (a.2.2.2.1, .inl (gI G, 40, .inl (fun j => nI (r.2.2.2.1 j)))), (a.2.2.2.2.1, .inl (gI G, 40, .inl r.2.2.2.2.1)), (a.2.2.2.2.2.1, .inl (gI G, 40, .inl r.2.2.2.2.2.1)), (a.2.2.2.2.2.2.1, .inl (gM G, 4, .inr (.inr (.inr (.inr (fun i => some (a.2.2.2.2.2.2.2 i)))))))] ++ (List.range 4).map (fun i => (a.2.2.2.2.2.2.2 i, .inl (gI G, 40, .inl (r.2.2.2.2.2.2 i))))
/-! things of a row of cells, by a place that is no number -/
theorem at_skip {P W : va_W} {n j k : Nat} (h : P.length = n) (hk : k = n + j) : (P ++ W)[k]? = W[j]? := by
  subst h
  subst hk
  rw [List.getElem?_append_right (by omega), Nat.add_sub_cancel_left]
theorem set_skip {P W : va_W} {n j k : Nat} {x : Nat × va_E} (h : P.length = n) (hk : k = n + j) : (P ++ W).set k x = P ++ W.set j x := by
  subst h
  subst hk
  rw [List.set_append_right _ _ (by omega), Nat.add_sub_cancel_left]
theorem fam_at {n v : Nat} (g : Nat → Nat × va_E) (hv : v < n) : ((List.range n).map g)[v]? = some (g v) := by
  rw [List.getElem?_map, List.getElem?_range hv]; rfl
theorem fam_atV {n v : Nat} (g : Nat → Nat × va_E) {V : va_W} (hv : v < n) : ((List.range n).map g ++ V)[v]? = some (g v) := by
  rw [List.getElem?_append_left (by simpa using hv)]; exact fam_at g hv
theorem fam_set {n v : Nat} (g g' : Nat → Nat × va_E) (x : Nat × va_E) (hv : v < n) (hx : g' v = x) (ho : ∀ i, i < n → i ≠ v → g' i = g i) : ((List.range n).map g).set v x = (List.range n).map g' := by
  apply List.ext_getElem?
  intro i
  by_cases h : i = v
  · subst h
    rw [List.getElem?_set_self (by simpa using hv), fam_at g' hv, hx]
  · rw [List.getElem?_set_ne (Ne.symm h)]
    by_cases hi : i < n
    · rw [fam_at g hi, fam_at g' hi, ho i hi h]
    · rw [List.getElem?_eq_none (by simpa using hi), List.getElem?_eq_none (by simpa using hi)]
theorem fam_setV {n v : Nat} (g g' : Nat → Nat × va_E) {V : va_W} (x : Nat × va_E) (hv : v < n) (hx : g' v = x) (ho : ∀ i, i < n → i ≠ v → g' i = g i) : ((List.range n).map g ++ V).set v x = (List.range n).map g' ++ V := by
  rw [List.set_append_left _ _ (by simpa using hv), fam_set g g' x hv hx ho]
/-- one of a row of rows changed -/
def updF (T : Nat → Nat → Int32) (v : Nat) (f : Nat → Int32) : Nat → Nat → Int32 := fun i => if i = v then f else T i
theorem updF_s (T : Nat → Nat → Int32) (v : Nat) (f : Nat → Int32) : updF T v f v = f := if_pos rfl
theorem updF_n {T : Nat → Nat → Int32} {v i : Nat} {f : Nat → Int32} (h : i ≠ v) : updF T v f i = T i := if_neg h
theorem rw_at {G : gT} {a : aRw} {r : tRw} {v : Nat} (hv : v < 4) : (wRw G a r)[7 + v]? = some (a.2.2.2.2.2.2.2 v, .inl (gI G, 40, .inl (r.2.2.2.2.2.2 v))) := (at_skip (n := 7) rfl rfl).trans (fam_at _ hv)
theorem rw_atV {G : gT} {a : aRw} {r : tRw} {V : va_W} {v : Nat} (hv : v < 4) : (wRw G a r ++ V)[7 + v]? = some (a.2.2.2.2.2.2.2 v, .inl (gI G, 40, .inl (r.2.2.2.2.2.2 v))) := by
  rw [List.getElem?_append_left (by show 7 + v < 11; omega)]; exact rw_at hv
theorem rw_set {G : gT} {a : aRw} {r : tRw} {v : Nat} {f : Nat → Int32} (hv : v < 4) : (wRw G a r).set (7 + v) (a.2.2.2.2.2.2.2 v, .inl (gI G, 40, .inl f)) = wRw G a (r.1, r.2.1, r.2.2.1, r.2.2.2.1, r.2.2.2.2.1, r.2.2.2.2.2.1, updF r.2.2.2.2.2.2 v f) :=
  (set_skip (n := 7) rfl rfl).trans (congrArg (fun z => _ ++ z) (fam_set _ (fun i => (a.2.2.2.2.2.2.2 i, .inl (gI G, 40, .inl (updF r.2.2.2.2.2.2 v f i)))) _ hv (by rw [updF_s]) (fun i _ h => by rw [updF_n h])))
theorem rw_setV {G : gT} {a : aRw} {r : tRw} {V : va_W} {v : Nat} {f : Nat → Int32} (hv : v < 4) : (wRw G a r ++ V).set (7 + v) (a.2.2.2.2.2.2.2 v, .inl (gI G, 40, .inl f)) = wRw G a (r.1, r.2.1, r.2.2.1, r.2.2.2.1, r.2.2.2.2.1, r.2.2.2.2.2.1, updF r.2.2.2.2.2.2 v f) ++ V := by
  rw [List.set_append_left _ _ (by show 7 + v < 11; omega), rw_set hv]
theorem cpy_nI (o g : Nat → Nat) (sp dp n : Nat) : va_cpy (fun j => nI (o j)) (fun j => nI (g j)) sp dp n = fun j => nI (va_cpy o g sp dp n j) := by
  funext j
  by_cases h : dp ≤ j ∧ j < dp + n <;> simp [va_cpy, h]
/-! PartSketch$Body: hasBase, pockets, xSides, ySides, and of each block: one, other, depth, outer, left, right, low, high, bottom, failing -/
abbrev tBk : Type := Nat × Nat × Int32 × Option Nat × Int32 × Int32 × Int32 × Int32 × Int32 × Int32
abbrev tBd : Type := Int32 × Nat × (Nat → Int32) × (Nat → Int32) × (Nat → tBk)
abbrev aBd : Type := Nat × Nat × Nat × Nat × (Nat → Nat)
def cBk (ad : Nat → Nat) (b : tBk) : va_E := .inr (1, [.int (nI b.1), .int (nI b.2.1), .int b.2.2.1, va_rf (b.2.2.2.1.map ad), .int b.2.2.2.2.1, .int b.2.2.2.2.2.1, .int b.2.2.2.2.2.2.1, .int b.2.2.2.2.2.2.2.1, .int b.2.2.2.2.2.2.2.2.1, .int b.2.2.2.2.2.2.2.2.2])
def wBd (G : gT) (a : aBd) (b : tBd) : va_W := [(a.1, .inr (2, [.int b.1, .int (nI b.2.1), .ref a.2.1, .ref a.2.2.1, .ref a.2.2.2.1])), (a.2.1, .inl (gB G, 9, .inr (.inr (.inr (.inr (fun i => some (a.2.2.2.2 i))))))), (a.2.2.1, .inl (gI G, 16, .inl b.2.2.1)), (a.2.2.2.1, .inl (gI G, 16, .inl b.2.2.2.1))] ++ (List.range 9).map (fun i => (a.2.2.2.2 i, cBk a.2.2.2.2 (b.2.2.2.2 i)))
def updB (T : Nat → tBk) (v : Nat) (f : tBk) : Nat → tBk := fun i => if i = v then f else T i
theorem updB_s (T : Nat → tBk) (v : Nat) (f : tBk) : updB T v f v = f := if_pos rfl
theorem updB_n {T : Nat → tBk} {v i : Nat} {f : tBk} (h : i ≠ v) : updB T v f i = T i := if_neg h
theorem updB_u (T : Nat → tBk) (v : Nat) (f g : tBk) : updB (updB T v f) v g = updB T v g := by
  funext i
  by_cases h : i = v <;> simp [updB, h]
theorem bd_at {G : gT} {a : aBd} {b : tBd} {v : Nat} (hv : v < 9) : (wBd G a b)[4 + v]? = some (a.2.2.2.2 v, cBk a.2.2.2.2 (b.2.2.2.2 v)) := (at_skip (n := 4) rfl rfl).trans (fam_at _ hv)
theorem bd_atV {G : gT} {a : aBd} {b : tBd} {V : va_W} {v : Nat} (hv : v < 9) : (wBd G a b ++ V)[4 + v]? = some (a.2.2.2.2 v, cBk a.2.2.2.2 (b.2.2.2.2 v)) := by
  rw [List.getElem?_append_left (by show 4 + v < 13; omega)]; exact bd_at hv
theorem bd_set {G : gT} {a : aBd} {b : tBd} {v : Nat} {f : tBk} (hv : v < 9) : (wBd G a b).set (4 + v) (a.2.2.2.2 v, cBk a.2.2.2.2 f) = wBd G a (b.1, b.2.1, b.2.2.1, b.2.2.2.1, updB b.2.2.2.2 v f) :=
  (set_skip (n := 4) rfl rfl).trans (congrArg (fun z => _ ++ z) (fam_set _ (fun i => (a.2.2.2.2 i, cBk a.2.2.2.2 (updB b.2.2.2.2 v f i))) _ hv (by rw [updB_s]) (fun i _ h => by rw [updB_n h])))
theorem bd_setV {G : gT} {a : aBd} {b : tBd} {V : va_W} {v : Nat} {f : tBk} (hv : v < 9) : (wBd G a b ++ V).set (4 + v) (a.2.2.2.2 v, cBk a.2.2.2.2 f) = wBd G a (b.1, b.2.1, b.2.2.1, b.2.2.2.1, updB b.2.2.2.2 v f) ++ V := by
  rw [List.set_append_left _ _ (by show 4 + v < 13; omega), bd_set hv]
theorem bd_atu {G : gT} {a : aBd} {h : Int32} {n : Nat} {xs ys : Nat → Int32} {T : Nat → tBk} {f : tBk} {v : Nat} (hv : v < 9) : (wBd G a (h, n, xs, ys, updB T v f))[4 + v]? = some (a.2.2.2.2 v, cBk a.2.2.2.2 f) := (bd_at hv).trans (by show some (_, cBk _ (updB _ _ _ _)) = _; rw [updB_s])
theorem bd_atuV {G : gT} {a : aBd} {h : Int32} {n : Nat} {xs ys : Nat → Int32} {T : Nat → tBk} {f : tBk} {V : va_W} {v : Nat} (hv : v < 9) : (wBd G a (h, n, xs, ys, updB T v f) ++ V)[4 + v]? = some (a.2.2.2.2 v, cBk a.2.2.2.2 f) := (bd_atV hv).trans (by show some (_, cBk _ (updB _ _ _ _)) = _; rw [updB_s])
theorem bd_atn {G : gT} {a : aBd} {h : Int32} {n : Nat} {xs ys : Nat → Int32} {T : Nat → tBk} {f : tBk} {v w : Nat} (hv : v < 9) (hn : v ≠ w) : (wBd G a (h, n, xs, ys, updB T w f))[4 + v]? = some (a.2.2.2.2 v, cBk a.2.2.2.2 (T v)) := (bd_at hv).trans (by show some (_, cBk _ (updB _ _ _ _)) = _; rw [updB_n hn])
theorem bd_atnV {G : gT} {a : aBd} {h : Int32} {n : Nat} {xs ys : Nat → Int32} {T : Nat → tBk} {f : tBk} {V : va_W} {v w : Nat} (hv : v < 9) (hn : v ≠ w) : (wBd G a (h, n, xs, ys, updB T w f) ++ V)[4 + v]? = some (a.2.2.2.2 v, cBk a.2.2.2.2 (T v)) := (bd_atV hv).trans (by show some (_, cBk _ (updB _ _ _ _)) = _; rw [updB_n hn])
theorem bd_setu {G : gT} {a : aBd} {h : Int32} {n : Nat} {xs ys : Nat → Int32} {T : Nat → tBk} {f f' : tBk} {v : Nat} (hv : v < 9) : (wBd G a (h, n, xs, ys, updB T v f)).set (4 + v) (a.2.2.2.2 v, cBk a.2.2.2.2 f') = wBd G a (h, n, xs, ys, updB T v f') := (bd_set hv).trans (by rw [updB_u])
theorem bd_setuV {G : gT} {a : aBd} {h : Int32} {n : Nat} {xs ys : Nat → Int32} {T : Nat → tBk} {f f' : tBk} {V : va_W} {v : Nat} (hv : v < 9) : (wBd G a (h, n, xs, ys, updB T v f) ++ V).set (4 + v) (a.2.2.2.2 v, cBk a.2.2.2.2 f') = wBd G a (h, n, xs, ys, updB T v f') ++ V := (bd_setV hv).trans (by rw [updB_u])
theorem zb_nar {v : Int32} (h : v = 0 ∨ v = 1) : narrow .boolean (.int v) = .int v := by rcases h with rfl | rfl <;> rfl
theorem zb_fit {v : Int32} (h : v = 0 ∨ v = 1) : fits .boolean (.int v) = true := by rcases h with rfl | rfl <;> rfl
theorem zb_vp {v : Int32} (h : v = 0 ∨ v = 1) : vp_nar .boolean v = v := by rcases h with rfl | rfl <;> rfl
theorem nm1 (k : Nat) : nI k - 1 + 1 = nI (k + 1) - 1 := by rw [nI_succ]; simp
theorem nm_p (k : Nat) : (1 : Int32) + (nI k - 1) = nI k := by rw [Int32.add_comm, Int32.sub_add_cancel]
theorem nm_ge {k n : Nat} (hk : k < 1000) (hn : n < 1000) : nI n ≤ nI k - 1 ↔ n + 1 ≤ k := by
  rcases k with _ | k
  · have h : (nI 0 - 1 : Int32) = -1 := by decide
    rw [h, Int32.le_iff_toInt_le, nI_toInt (by omega)]
    have : (-1 : Int32).toInt = -1 := by decide
    omega
  · rw [show nI (k + 1) - 1 = nI k from nI_pred k, nI_leI (by omega) (by omega)]
    omega
/-- the number of an int, read without sign -/
def iN (x : Int32) : Nat := x.toBitVec.toNat
theorem nI_iN (x : Int32) : x = nI (iN x) := by
  apply Int32.toBitVec_inj.mp
  show _ = BitVec.ofNat 32 x.toBitVec.toNat
  simp
theorem iN_nI {n : Nat} (h : n < 2 ^ 32) : iN (nI n) = n := by
  show (BitVec.ofNat 32 n).toNat = n
  rw [BitVec.toNat_ofNat, Nat.mod_eq_of_lt h]
theorem nI_mulr (a : Nat) (x : Int32) : nI a * x = nI (a * iN x) := by
  rw [← pk_mul, ← nI_iN]
theorem nI_addr (a : Nat) (x : Int32) : nI a + x = nI (a + iN x) := by
  rw [← nI_add, ← nI_iN]
/-! the check: its cells in one world; points, hints and wishes; the table; what is solved; the body; what is built; the cuts -/
abbrev tMS : Type := Nat × (Nat → Int32) × (Nat → Int32) × Nat × (Nat → Nat) × (Nat → Nat) × (Nat → Nat) × (Nat → Int32)
abbrev tMT : Type := (Nat → Int32) × (Nat → Int32)
abbrev tMV : Type := (Nat → Int32) × (Nat → Int32) × (Nat → Int32)
abbrev tMB : Type := Int32 × Nat × Nat × Int32 × Nat × (Nat → Nat) × (Nat → Nat) × (Nat → Int32) × (Nat → Int32)
abbrev tMQ : Type := (Nat → Int32) × (Nat → Int32) × (Nat → Int32)
abbrev tMC : Type := (Nat → Int32) × (Nat → Int32) × (Nat → Int32)
abbrev tMd : Type := Int32 × tMS × tMT × tMV × tMB × tMQ × tMC
abbrev aMd : Type := Nat → Nat
def wMd (G : gT) (a : aMd) (m : tMd) : va_W := [(a 0, .inr (5, [.int m.1, .int (nI m.2.1.1), .ref (a 1), .ref (a 2), .int (nI m.2.1.2.2.2.1), .ref (a 3), .ref (a 4), .ref (a 5), .ref (a 6), .ref (a 7), .ref (a 8), .ref (a 9), .ref (a 10), .ref (a 11), .int m.2.2.2.2.1.1, .int (nI m.2.2.2.2.1.2.1), .int (nI m.2.2.2.2.1.2.2.1), .int m.2.2.2.2.1.2.2.2.1, .int (nI m.2.2.2.2.1.2.2.2.2.1), .ref (a 12), .ref (a 13), .ref (a 14), .ref (a 15), .ref (a 16), .ref (a 17), .ref (a 18), .ref (a 19), .ref (a 20), .ref (a 21)])), (a 1, .inl (gI G, 16, .inl m.2.1.2.1)), (a 2, .inl (gI G, 16, .inl m.2.1.2.2.1)), (a 3, .inl (gI G, 40, .inl (fun j => nI (m.2.1.2.2.2.2.1 j)))), (a 4, .inl (gI G, 40, .inl (fun j => nI (m.2.1.2.2.2.2.2.1 j)))), (a 5, .inl (gI G, 40, .inl (fun j => nI (m.2.1.2.2.2.2.2.2.1 j)))), (a 6, .inl (gI G, 40, .inl m.2.1.2.2.2.2.2.2.2)), (a 7, .inl (gI G, 40, .inl m.2.2.2.1.1)), (a 8, .inl (gI G, 160, .inl m.2.2.1.1)), (a 9, .inl (gZ G, 160, .inl m.2.2.1.2)), (a 10, .inl (gI G, 34, .inl m.2.2.2.1.2.1)), (a 11, .inl (gI G, 34, .inl m.2.2.2.1.2.2)), (a 12, .inl (gI G, 8, .inl (fun j => nI (m.2.2.2.2.1.2.2.2.2.2.1 j)))), (a 13, .inl (gI G, 8, .inl (fun j => nI (m.2.2.2.2.1.2.2.2.2.2.2.1 j)))), (a 14, .inl (gI G, 8, .inl m.2.2.2.2.1.2.2.2.2.2.2.2.1)), (a 15, .inl (gI G, 8, .inl m.2.2.2.2.1.2.2.2.2.2.2.2.2)), (a 16, .inl (gI G, 36, .inl m.2.2.2.2.2.1.1)), (a 17, .inl (gI G, 8, .inl m.2.2.2.2.2.1.2.1)), (a 18, .inl (gZ G, 9, .inl m.2.2.2.2.2.1.2.2)), (a 19, .inl (gI G, 18, .inl m.2.2.2.2.2.2.1)), (a 20, .inl (gI G, 18, .inl m.2.2.2.2.2.2.2.1)), (a 21, .inl (gI G, 18, .inl m.2.2.2.2.2.2.2.2))]
end
section
/-! PartSketch$Axis: what its methods compute, written as they do it -/
theorem ct_ge {k n : Nat} (hk : k < 2 ^ 31) (hn : n < 2 ^ 31) (c : nI n ≤ nI k) : n ≤ k := (nI_leI hn hk).mp c
theorem ct_nge {k n : Nat} (hk : k < 2 ^ 31) (hn : n < 2 ^ 31) (c : ¬ nI n ≤ nI k) : k < n := Nat.not_le.mp fun h => c ((nI_leI hn hk).mpr h)
def axPl (x : tAx) (i : Nat) : Int32 := x.2.2.2 i - x.2.2.2 16
def axJudge (x : tAx) (i k : Nat) (d : Int32) : Int32 := if x.2.2.1 i = x.2.2.1 k then (if x.2.2.2 k - x.2.2.2 i = d then 1 else 2) else 0
def axLooseK (x : tAx) : Nat → tAx
  | 0 => x
  | k + 1 => ((axLooseK x k).1, (axLooseK x k).2.1, upd (axLooseK x k).2.2.1 k (nI k), upd (axLooseK x k).2.2.2 k 0)
def axJoinK (x : tAx) (kept joined sh : Int32) : Nat → tAx
  | 0 => x
  | k + 1 => if (axJoinK x kept joined sh k).2.2.1 k = joined then ((axJoinK x kept joined sh k).1, (axJoinK x kept joined sh k).2.1, upd (axJoinK x kept joined sh k).2.2.1 k kept, upd (axJoinK x kept joined sh k).2.2.2 k ((axJoinK x kept joined sh k).2.2.2 k + sh)) else axJoinK x kept joined sh k
def axJoin (x : tAx) (i k : Nat) (d : Int32) : tAx := axJoinK x (x.2.2.1 i) (x.2.2.1 k) (x.2.2.2 i + d - x.2.2.2 k) 17
def axPinK (x : tAx) : Nat → tAx
  | 0 => (x.1, 0, x.2.2.1, x.2.2.2)
  | k + 1 => if (axPinK x k).2.2.1 k = (axPinK x k).2.2.1 16 then axPinK x k else axJoin ((axPinK x k).1, (axPinK x k).2.1 + 1, (axPinK x k).2.2.1, (axPinK x k).2.2.2) 16 k ((axPinK x k).1 k)

theorem wiX0_placeOf_placeOf_X0 : ∀ w ∈ wsX00, w ∈ wsX0_placeOf := by decide +kernel
theorem wmX0_placeOf_placeOf_0 : Cond.fieldLink RX0 18 "PartSketch$Axis" "place" "[I" ∈ wsX0_placeOf := by decide +kernel
set_option maxHeartbeats 4000000 in
set_option maxRecDepth 100000 in
/-- Axis.placeOf: the place less the ground -/
theorem c_placeOf (l : Launch) (G : gT) (a : aAx) (x : tAx) (i : Nat) (hi : i < 17) (sz : Nat) : MI l yX0_placeOf wsX0_placeOf ({ frames := 0, cells := 0, slots := 0, locals := 0 }) G [.ref a.1, .int (nI i)] (wAx G a x) (wAx G a x) sz (axPl x i) 0 0 := by
  refine m_of (Qc := fun A => (va_Qi (fun (r9 : Int32) (_ : Unit) => r9 = (axPl x i)) (fun _ t9 => wPost G A (wAx G a x) t9) A)) (cc := cX0_placeOf) (maxL := 2) (ret := (some .int)) (by decide) rfl (Nat.le_of_ble_eq_true rfl) ?_
  intro p e s m A below meth c H locs ls hx hb hr hts hown hlocks hin hml hK hA hw hl
  have hl : lv_has ls 2 [(0, .ref a.1), (1, .int (nI i))] := hl
  refine lv_aload_n hx hb dX0_placeOf_0 rfl (lv_at hl 0 rfl) ?_
  refine r_get (ci := 0) (v := .ref a.2.2.2) (C := RX0) (T := TX0) (N := 4) hx hb hts wiX0_placeOf_placeOf_X0 hown hK hw 0 rfl rfl 3 (by decide) wmX0_placeOf_placeOf_0 (fun _ h9 => h9) rfl dX0_placeOf_1 ?_
  refine lv_iload_n hx hb dX0_placeOf_4 rfl (lv_at hl 1 rfl) ?_
  refine r_iald (v := x.2.2.2 i) hx hb hK hw 3 rfl i rfl (by omega) (by decide) rfl dX0_placeOf_5 ?_
  refine lv_aload_n hx hb dX0_placeOf_6 rfl (lv_at hl 0 rfl) ?_
  refine r_get (ci := 0) (v := .ref a.2.2.2) (C := RX0) (T := TX0) (N := 4) hx hb hts wiX0_placeOf_placeOf_X0 hown hK hw 0 rfl rfl 3 (by decide) wmX0_placeOf_placeOf_0 (fun _ h9 => h9) rfl dX0_placeOf_7 ?_
  refine lv_bipush (v := 16) hx hb dX0_placeOf_10 (by decide) ?_
  refine r_iald (v := x.2.2.2 16) hx hb hK hw 3 rfl 16 rfl (by omega) (by decide) rfl dX0_placeOf_12 ?_
  refine lv_isub hx hb dX0_placeOf_13 ?_
  exact m_iret hx hb hr hlocks hK hw (Nat.le_of_ble_eq_true rfl) (Nat.le_of_ble_eq_true rfl) dX0_placeOf_14 (show ((x.2.2.2 i) - (x.2.2.2 16) : Int32) = axPl x i by first | rfl | (simp only []; first | done | rfl)) rfl

theorem wiX0_judge_judge_X0 : ∀ w ∈ wsX00, w ∈ wsX0_judge := by decide +kernel
theorem wmX0_judge_judge_0 : Cond.fieldLink RX0 15 "PartSketch$Axis" "group" "[I" ∈ wsX0_judge := by decide +kernel
theorem wmX0_judge_judge_1 : Cond.fieldLink RX0 18 "PartSketch$Axis" "place" "[I" ∈ wsX0_judge := by decide +kernel
set_option maxHeartbeats 4000000 in
set_option maxRecDepth 100000 in
/-- Axis.judge -/
theorem c_judge (l : Launch) (G : gT) (a : aAx) (x : tAx) (i : Nat) (k : Nat) (d : Int32) (hi : i < 17) (hk : k < 17) (sz : Nat) : MI l yX0_judge wsX0_judge ({ frames := 0, cells := 0, slots := 0, locals := 0 }) G [.ref a.1, .int (nI i), .int (nI k), .int d] (wAx G a x) (wAx G a x) sz (axJudge x i k d) 0 0 := by
  refine m_of (Qc := fun A => (va_Qi (fun (r9 : Int32) (_ : Unit) => r9 = (axJudge x i k d)) (fun _ t9 => wPost G A (wAx G a x) t9) A)) (cc := cX0_judge) (maxL := 4) (ret := (some .int)) (by decide) rfl (Nat.le_of_ble_eq_true rfl) ?_
  intro p e s m A below meth c H locs ls hx hb hr hts hown hlocks hin hml hK hA hw hl
  have hl : lv_has ls 4 [(0, .ref a.1), (1, .int (nI i)), (2, .int (nI k)), (3, .int d)] := hl
  refine lv_aload_n hx hb dX0_judge_0 rfl (lv_at hl 0 rfl) ?_
  refine r_get (ci := 0) (v := .ref a.2.2.1) (C := RX0) (T := TX0) (N := 4) hx hb hts wiX0_judge_judge_X0 hown hK hw 0 rfl rfl 2 (by decide) wmX0_judge_judge_0 (fun _ h9 => h9) rfl dX0_judge_1 ?_
  refine lv_iload_n hx hb dX0_judge_4 rfl (lv_at hl 1 rfl) ?_
  refine r_iald (v := x.2.2.1 i) hx hb hK hw 2 rfl i rfl (by omega) (by decide) rfl dX0_judge_5 ?_
  refine lv_aload_n hx hb dX0_judge_6 rfl (lv_at hl 0 rfl) ?_
  refine r_get (ci := 0) (v := .ref a.2.2.1) (C := RX0) (T := TX0) (N := 4) hx hb hts wiX0_judge_judge_X0 hown hK hw 0 rfl rfl 2 (by decide) wmX0_judge_judge_0 (fun _ h9 => h9) rfl dX0_judge_7 ?_
  refine lv_iload_n hx hb dX0_judge_10 rfl (lv_at hl 2 rfl) ?_
  refine r_iald (v := x.2.2.1 k) hx hb hK hw 2 rfl k rfl (by omega) (by decide) rfl dX0_judge_11 ?_
  refine lv_icmp_eq (tgt := 17) hx hb dX0_judge_12 (by decide) (fun c_12 => ?_) (fun c_12 => ?_)
  · refine lv_aload_n hx hb dX0_judge_17 rfl (lv_at hl 0 rfl) ?_
    refine r_get (ci := 0) (v := .ref a.2.2.2) (C := RX0) (T := TX0) (N := 4) hx hb hts wiX0_judge_judge_X0 hown hK hw 0 rfl rfl 3 (by decide) wmX0_judge_judge_1 (fun _ h9 => h9) rfl dX0_judge_18 ?_
    refine lv_iload_n hx hb dX0_judge_21 rfl (lv_at hl 2 rfl) ?_
    refine r_iald (v := x.2.2.2 k) hx hb hK hw 3 rfl k rfl (by omega) (by decide) rfl dX0_judge_22 ?_
    refine lv_aload_n hx hb dX0_judge_23 rfl (lv_at hl 0 rfl) ?_
    refine r_get (ci := 0) (v := .ref a.2.2.2) (C := RX0) (T := TX0) (N := 4) hx hb hts wiX0_judge_judge_X0 hown hK hw 0 rfl rfl 3 (by decide) wmX0_judge_judge_1 (fun _ h9 => h9) rfl dX0_judge_24 ?_
    refine lv_iload_n hx hb dX0_judge_27 rfl (lv_at hl 1 rfl) ?_
    refine r_iald (v := x.2.2.2 i) hx hb hK hw 3 rfl i rfl (by omega) (by decide) rfl dX0_judge_28 ?_
    refine lv_isub hx hb dX0_judge_29 ?_
    refine lv_iload_n hx hb dX0_judge_30 rfl (lv_at hl 3 rfl) ?_
    refine lv_icmp_ne (tgt := 38) hx hb dX0_judge_31 (by decide) (fun c_31 => ?_) (fun c_31 => ?_)
    · refine lv_iconst (v := 2) hx hb dX0_judge_38 (by decide) ?_
      exact m_iret hx hb hr hlocks hK hw (Nat.le_of_ble_eq_true rfl) (Nat.le_of_ble_eq_true rfl) dX0_judge_39 (show (2 : Int32) = axJudge x i k d by first | rfl | (simp only [axJudge, if_pos c_12, if_neg c_31]; first | done | rfl)) rfl
    · refine lv_iconst (v := 1) hx hb dX0_judge_34 (by decide) ?_
      refine lv_goto (tgt := 39) hx hb dX0_judge_35 (by decide) ?_
      exact m_iret hx hb hr hlocks hK hw (Nat.le_of_ble_eq_true rfl) (Nat.le_of_ble_eq_true rfl) dX0_judge_39 (show (1 : Int32) = axJudge x i k d by first | rfl | (simp only [axJudge, if_pos c_12, if_pos c_31]; first | done | rfl)) rfl
  · refine lv_iconst (v := 0) hx hb dX0_judge_15 (by decide) ?_
    exact m_iret hx hb hr hlocks hK hw (Nat.le_of_ble_eq_true rfl) (Nat.le_of_ble_eq_true rfl) dX0_judge_16 (show (0 : Int32) = axJudge x i k d by first | rfl | (simp only [axJudge, if_neg c_12]; first | done | rfl)) rfl

theorem wiX0_loosen_loosen_X0 : ∀ w ∈ wsX00, w ∈ wsX0_loosen := by decide +kernel
theorem wmX0_loosen_loosen_0 : Cond.fieldLink RX0 15 "PartSketch$Axis" "group" "[I" ∈ wsX0_loosen := by decide +kernel
theorem wmX0_loosen_loosen_1 : Cond.fieldLink RX0 18 "PartSketch$Axis" "place" "[I" ∈ wsX0_loosen := by decide +kernel
set_option maxHeartbeats 4000000 in
set_option maxRecDepth 100000 in
/-- Axis.loosen: each its own group -/
theorem c_loosen (l : Launch) (G : gT) (a : aAx) (x : tAx) (sz : Nat) : MV l yX0_loosen wsX0_loosen ({ frames := 0, cells := 0, slots := 0, locals := 0 }) G [.ref a.1] (wAx G a x) (wAx G a (axLooseK x 17)) sz 0 0 := by
  refine m_of (Qc := fun A => (va_Qv (fun (_ : Unit) => True) (fun _ t9 => wPost G A (wAx G a (axLooseK x 17)) t9) A)) (cc := cX0_loosen) (maxL := 2) (ret := none) (by decide) rfl (Nat.le_of_ble_eq_true rfl) ?_
  intro p e s m A below meth c H locs ls hx hb hr hts hown hlocks hin hml hK hA hw hl
  have hl : lv_has ls 2 [(0, .ref a.1)] := hl
  refine lv_iconst (v := 0) hx hb dX0_loosen_0 (by decide) ?_
  refine lv_istore_n (lv' := [(1, .int 0), (0, .ref a.1)]) hx hb dX0_loosen_1 rfl hl (by decide) rfl (fun ls hl => ?_)
  have loop_2 : ∀ (nf : Nat) (k : Nat) (hnf : (17 - k) < nf) (hk : k ≤ 17), ∀ (H : Heap) (locs : List Loc) (ls : Array Slot), wW G A s.heap (wAx G a (axLooseK x k)) H locs → lv_has ls 2 [(0, .ref a.1), (1, .int (nI k))] → W p l e ({ frames := 0, cells := 0, slots := 0, locals := 0 }) s m [.ref a.1].toArray below meth c H locs 0 0 (MQ below (va_Qv (fun (_ : Unit) => True) (fun _ t9 => wPost G A (wAx G a (axLooseK x 17)) t9) A) [.ref a.1].toArray s 0 0 A) (F0 m 2 ls []) := by
    intro nf
    induction nf with
    | zero => intro k hnf hk; exact absurd hnf (Nat.not_lt_zero _)
    | succ nf ih_2 =>
      intro k hnf hk H locs ls hw hl
      refine lv_iload_n hx hb dX0_loosen_2 rfl (lv_at hl 1 rfl) ?_
      refine lv_aload_n hx hb dX0_loosen_3 rfl (lv_at hl 0 rfl) ?_
      refine r_get (ci := 0) (v := .ref a.2.2.1) (C := RX0) (T := TX0) (N := 4) hx hb hts wiX0_loosen_loosen_X0 hown hK hw 0 rfl rfl 2 (by decide) wmX0_loosen_loosen_0 (fun _ h9 => h9) rfl dX0_loosen_4 ?_
      refine va_alen (v := 17) hx hb hK hw.1 2 0 rfl rfl rfl dX0_loosen_7 ?_
      refine lv_icmp_ge (tgt := 31) hx hb dX0_loosen_8 (by decide) (fun c_8 => ?_) (fun c_8 => ?_)
      · have hx_8 : 17 ≤ k := ct_ge (k := k) (n := 17) (by omega) (by omega) c_8
        exact m_vret hx hb hr hlocks hK hw (Nat.le_of_ble_eq_true rfl) (Nat.le_of_ble_eq_true rfl) dX0_loosen_31 (show wAx G a (axLooseK x k) = wAx G a (axLooseK x 17) by rw [show k = 17 by omega])
      · have hc_8 : k < 17 := ct_nge (k := k) (n := 17) (by omega) (by omega) c_8
        refine lv_aload_n hx hb dX0_loosen_11 rfl (lv_at hl 0 rfl) ?_
        refine r_get (ci := 0) (v := .ref a.2.2.1) (C := RX0) (T := TX0) (N := 4) hx hb hts wiX0_loosen_loosen_X0 hown hK hw 0 rfl rfl 2 (by decide) wmX0_loosen_loosen_0 (fun _ h9 => h9) rfl dX0_loosen_12 ?_
        refine lv_iload_n hx hb dX0_loosen_15 rfl (lv_at hl 1 rfl) ?_
        refine lv_iload_n hx hb dX0_loosen_16 rfl (lv_at hl 1 rfl) ?_
        refine r_iast hx hb hK hw 2 rfl k rfl (by omega) (by decide) dX0_loosen_17 (ws' := wAx G a ((axLooseK x k).1, (axLooseK x k).2.1, (upd ((axLooseK x k).2.2.1) k (nI k)), (axLooseK x k).2.2.2)) rfl (fun H locs hw => ?_)
        refine lv_aload_n hx hb dX0_loosen_18 rfl (lv_at hl 0 rfl) ?_
        refine r_get (ci := 0) (v := .ref a.2.2.2) (C := RX0) (T := TX0) (N := 4) hx hb hts wiX0_loosen_loosen_X0 hown hK hw 0 rfl rfl 3 (by decide) wmX0_loosen_loosen_1 (fun _ h9 => h9) rfl dX0_loosen_19 ?_
        refine lv_iload_n hx hb dX0_loosen_22 rfl (lv_at hl 1 rfl) ?_
        refine lv_iconst (v := 0) hx hb dX0_loosen_23 (by decide) ?_
        refine r_iast hx hb hK hw 3 rfl k rfl (by omega) (by decide) dX0_loosen_24 (ws' := wAx G a ((axLooseK x k).1, (axLooseK x k).2.1, (upd ((axLooseK x k).2.2.1) k (nI k)), (upd ((axLooseK x k).2.2.2) k 0))) rfl (fun H locs hw => ?_)
        refine lv_iinc (v := nI (k + 1)) (lv' := [(1, .int (nI (k + 1))), (0, .ref a.1)]) hx hb dX0_loosen_25 hl (k := 1) rfl (nI_add k 1) (by decide) rfl (fun ls hl => ?_)
        refine lv_goto (tgt := 2) hx hb dX0_loosen_28 (by decide) ?_
        exact ih_2 (k + 1) (by omega) (by first | assumption | omega | rfl) _ _ _ (wW.eq (show wAx G a ((axLooseK x k).1, (axLooseK x k).2.1, (upd ((axLooseK x k).2.2.1) k (nI k)), (upd ((axLooseK x k).2.2.2) k 0)) = wAx G a (axLooseK x (k + 1)) from rfl) hw) (lv_sub hl [1, 0] rfl)
  exact loop_2 ((17 - 0) + 1) 0 (Nat.lt_succ_self _) (by first | assumption | omega | rfl) _ _ _ (wW.eq (show wAx G a x = wAx G a (axLooseK x 0) from rfl) hw) (lv_sub hl [1, 0] rfl)

theorem wiX0_join_join_X0 : ∀ w ∈ wsX00, w ∈ wsX0_join := by decide +kernel
theorem wmX0_join_join_0 : Cond.fieldLink RX0 15 "PartSketch$Axis" "group" "[I" ∈ wsX0_join := by decide +kernel
theorem wmX0_join_join_1 : Cond.fieldLink RX0 18 "PartSketch$Axis" "place" "[I" ∈ wsX0_join := by decide +kernel
set_option maxHeartbeats 4000000 in
set_option maxRecDepth 100000 in
/-- Axis.join -/
theorem c_join (l : Launch) (G : gT) (a : aAx) (x : tAx) (i : Nat) (j : Nat) (d : Int32) (hi : i < 17) (hj : j < 17) (sz : Nat) : MV l yX0_join wsX0_join ({ frames := 0, cells := 0, slots := 0, locals := 0 }) G [.ref a.1, .int (nI i), .int (nI j), .int d] (wAx G a x) (wAx G a (axJoin x i j d)) sz 0 0 := by
  refine m_of (Qc := fun A => (va_Qv (fun (_ : Unit) => True) (fun _ t9 => wPost G A (wAx G a (axJoin x i j d)) t9) A)) (cc := cX0_join) (maxL := 8) (ret := none) (by decide) rfl (Nat.le_of_ble_eq_true rfl) ?_
  intro p e s m A below meth c H locs ls hx hb hr hts hown hlocks hin hml hK hA hw hl
  have hl : lv_has ls 8 [(0, .ref a.1), (1, .int (nI i)), (2, .int (nI j)), (3, .int d)] := hl
  refine lv_aload_n hx hb dX0_join_0 rfl (lv_at hl 0 rfl) ?_
  refine r_get (ci := 0) (v := .ref a.2.2.1) (C := RX0) (T := TX0) (N := 4) hx hb hts wiX0_join_join_X0 hown hK hw 0 rfl rfl 2 (by decide) wmX0_join_join_0 (fun _ h9 => h9) rfl dX0_join_1 ?_
  refine lv_iload_n hx hb dX0_join_4 rfl (lv_at hl 1 rfl) ?_
  refine r_iald (v := x.2.2.1 i) hx hb hK hw 2 rfl i rfl (by omega) (by decide) rfl dX0_join_5 ?_
  refine lv_istore (lv' := [(4, .int (x.2.2.1 i)), (0, .ref a.1), (1, .int (nI i)), (2, .int (nI j)), (3, .int d)]) hx hb dX0_join_6 hl (by decide) rfl (fun ls hl => ?_)
  refine lv_aload_n hx hb dX0_join_8 rfl (lv_at hl 1 rfl) ?_
  refine r_get (ci := 0) (v := .ref a.2.2.1) (C := RX0) (T := TX0) (N := 4) hx hb hts wiX0_join_join_X0 hown hK hw 0 rfl rfl 2 (by decide) wmX0_join_join_0 (fun _ h9 => h9) rfl dX0_join_9 ?_
  refine lv_iload_n hx hb dX0_join_12 rfl (lv_at hl 3 rfl) ?_
  refine r_iald (v := x.2.2.1 j) hx hb hK hw 2 rfl j rfl (by omega) (by decide) rfl dX0_join_13 ?_
  refine lv_istore (lv' := [(5, .int (x.2.2.1 j)), (4, .int (x.2.2.1 i)), (0, .ref a.1), (1, .int (nI i)), (2, .int (nI j)), (3, .int d)]) hx hb dX0_join_14 hl (by decide) rfl (fun ls hl => ?_)
  refine lv_aload_n hx hb dX0_join_16 rfl (lv_at hl 2 rfl) ?_
  refine r_get (ci := 0) (v := .ref a.2.2.2) (C := RX0) (T := TX0) (N := 4) hx hb hts wiX0_join_join_X0 hown hK hw 0 rfl rfl 3 (by decide) wmX0_join_join_1 (fun _ h9 => h9) rfl dX0_join_17 ?_
  refine lv_iload_n hx hb dX0_join_20 rfl (lv_at hl 3 rfl) ?_
  refine r_iald (v := x.2.2.2 i) hx hb hK hw 3 rfl i rfl (by omega) (by decide) rfl dX0_join_21 ?_
  refine lv_iload_n hx hb dX0_join_22 rfl (lv_at hl 5 rfl) ?_
  refine lv_iadd hx hb dX0_join_23 ?_
  refine lv_aload_n hx hb dX0_join_24 rfl (lv_at hl 2 rfl) ?_
  refine r_get (ci := 0) (v := .ref a.2.2.2) (C := RX0) (T := TX0) (N := 4) hx hb hts wiX0_join_join_X0 hown hK hw 0 rfl rfl 3 (by decide) wmX0_join_join_1 (fun _ h9 => h9) rfl dX0_join_25 ?_
  refine lv_iload_n hx hb dX0_join_28 rfl (lv_at hl 4 rfl) ?_
  refine r_iald (v := x.2.2.2 j) hx hb hK hw 3 rfl j rfl (by omega) (by decide) rfl dX0_join_29 ?_
  refine lv_isub hx hb dX0_join_30 ?_
  refine lv_istore (lv' := [(6, .int (((x.2.2.2 i) + d) - (x.2.2.2 j))), (5, .int (x.2.2.1 j)), (4, .int (x.2.2.1 i)), (0, .ref a.1), (1, .int (nI i)), (2, .int (nI j)), (3, .int d)]) hx hb dX0_join_31 hl (by decide) rfl (fun ls hl => ?_)
  refine lv_iconst (v := 0) hx hb dX0_join_33 (by decide) ?_
  refine lv_istore (lv' := [(7, .int 0), (6, .int (((x.2.2.2 i) + d) - (x.2.2.2 j))), (5, .int (x.2.2.1 j)), (4, .int (x.2.2.1 i)), (0, .ref a.1), (1, .int (nI i)), (2, .int (nI j)), (3, .int d)]) hx hb dX0_join_34 hl (by decide) rfl (fun ls hl => ?_)
  have loop_36 : ∀ (nf : Nat) (k : Nat) (hnf : (17 - k) < nf) (hk : k ≤ 17), ∀ (H : Heap) (locs : List Loc) (ls : Array Slot), wW G A s.heap (wAx G a (axJoinK x (x.2.2.1 i) (x.2.2.1 j) (x.2.2.2 i + d - x.2.2.2 j) k)) H locs → lv_has ls 8 [(0, .ref a.1), (1, .int (nI i)), (2, .int (nI j)), (3, .int d), (4, .int (x.2.2.1 i)), (5, .int (x.2.2.1 j)), (6, .int (((x.2.2.2 i) + d) - (x.2.2.2 j))), (7, .int (nI k))] → W p l e ({ frames := 0, cells := 0, slots := 0, locals := 0 }) s m [.ref a.1, .int (nI i), .int (nI j), .int d].toArray below meth c H locs 0 0 (MQ below (va_Qv (fun (_ : Unit) => True) (fun _ t9 => wPost G A (wAx G a (axJoin x i j d)) t9) A) [.ref a.1, .int (nI i), .int (nI j), .int d].toArray s 0 0 A) (F0 m 36 ls []) := by
    intro nf
    induction nf with
    | zero => intro k hnf hk; exact absurd hnf (Nat.not_lt_zero _)
    | succ nf ih_36 =>
      intro k hnf hk H locs ls hw hl
      refine lv_iload hx hb dX0_join_36 (lv_at hl 7 rfl) ?_
      refine lv_aload_n hx hb dX0_join_38 rfl (lv_at hl 0 rfl) ?_
      refine r_get (ci := 0) (v := .ref a.2.2.1) (C := RX0) (T := TX0) (N := 4) hx hb hts wiX0_join_join_X0 hown hK hw 0 rfl rfl 2 (by decide) wmX0_join_join_0 (fun _ h9 => h9) rfl dX0_join_39 ?_
      refine va_alen (v := 17) hx hb hK hw.1 2 0 rfl rfl rfl dX0_join_42 ?_
      refine lv_icmp_ge (tgt := 85) hx hb dX0_join_43 (by decide) (fun c_43 => ?_) (fun c_43 => ?_)
      · have hx_43 : 17 ≤ k := ct_ge (k := k) (n := 17) (by omega) (by omega) c_43
        exact m_vret hx hb hr hlocks hK hw (Nat.le_of_ble_eq_true rfl) (Nat.le_of_ble_eq_true rfl) dX0_join_85 (show wAx G a (axJoinK x (x.2.2.1 i) (x.2.2.1 j) (x.2.2.2 i + d - x.2.2.2 j) k) = wAx G a (axJoin x i j d) by rw [show k = 17 by omega]; rfl)
      · have hc_43 : k < 17 := ct_nge (k := k) (n := 17) (by omega) (by omega) c_43
        refine lv_aload_n hx hb dX0_join_46 rfl (lv_at hl 0 rfl) ?_
        refine r_get (ci := 0) (v := .ref a.2.2.1) (C := RX0) (T := TX0) (N := 4) hx hb hts wiX0_join_join_X0 hown hK hw 0 rfl rfl 2 (by decide) wmX0_join_join_0 (fun _ h9 => h9) rfl dX0_join_47 ?_
        refine lv_iload hx hb dX0_join_50 (lv_at hl 7 rfl) ?_
        refine r_iald (v := ((axJoinK x (x.2.2.1 i) (x.2.2.1 j) (x.2.2.2 i + d - x.2.2.2 j) k).2.2.1) k) hx hb hK hw 2 rfl k rfl (by omega) (by decide) rfl dX0_join_52 ?_
        refine lv_iload hx hb dX0_join_53 (lv_at hl 5 rfl) ?_
        refine lv_icmp_ne (tgt := 79) hx hb dX0_join_55 (by decide) (fun c_55 => ?_) (fun c_55 => ?_)
        · refine lv_iinc (v := nI (k + 1)) (lv' := [(7, .int (nI (k + 1))), (0, .ref a.1), (1, .int (nI i)), (2, .int (nI j)), (3, .int d), (4, .int (x.2.2.1 i)), (5, .int (x.2.2.1 j)), (6, .int (((x.2.2.2 i) + d) - (x.2.2.2 j)))]) hx hb dX0_join_79 hl (k := 7) rfl (nI_add k 1) (by decide) rfl (fun ls hl => ?_)
          refine lv_goto (tgt := 36) hx hb dX0_join_82 (by decide) ?_
          exact ih_36 (k + 1) (by omega) (by first | assumption | omega | rfl) _ _ _ (wW.eq (show wAx G a (axJoinK x (x.2.2.1 i) (x.2.2.1 j) (x.2.2.2 i + d - x.2.2.2 j) k) = wAx G a (axJoinK x (x.2.2.1 i) (x.2.2.1 j) (x.2.2.2 i + d - x.2.2.2 j) (k + 1)) from (by simp only [axJoinK, if_neg c_55])) hw) (lv_sub hl [1, 2, 3, 4, 5, 6, 7, 0] rfl)
        · refine lv_aload_n hx hb dX0_join_58 rfl (lv_at hl 0 rfl) ?_
          refine r_get (ci := 0) (v := .ref a.2.2.1) (C := RX0) (T := TX0) (N := 4) hx hb hts wiX0_join_join_X0 hown hK hw 0 rfl rfl 2 (by decide) wmX0_join_join_0 (fun _ h9 => h9) rfl dX0_join_59 ?_
          refine lv_iload hx hb dX0_join_62 (lv_at hl 7 rfl) ?_
          refine lv_iload hx hb dX0_join_64 (lv_at hl 4 rfl) ?_
          refine r_iast hx hb hK hw 2 rfl k rfl (by omega) (by decide) dX0_join_66 (ws' := wAx G a ((axJoinK x (x.2.2.1 i) (x.2.2.1 j) (x.2.2.2 i + d - x.2.2.2 j) k).1, (axJoinK x (x.2.2.1 i) (x.2.2.1 j) (x.2.2.2 i + d - x.2.2.2 j) k).2.1, (upd ((axJoinK x (x.2.2.1 i) (x.2.2.1 j) (x.2.2.2 i + d - x.2.2.2 j) k).2.2.1) k (x.2.2.1 i)), (axJoinK x (x.2.2.1 i) (x.2.2.1 j) (x.2.2.2 i + d - x.2.2.2 j) k).2.2.2)) rfl (fun H locs hw => ?_)
          refine lv_aload_n hx hb dX0_join_67 rfl (lv_at hl 0 rfl) ?_
          refine r_get (ci := 0) (v := .ref a.2.2.2) (C := RX0) (T := TX0) (N := 4) hx hb hts wiX0_join_join_X0 hown hK hw 0 rfl rfl 3 (by decide) wmX0_join_join_1 (fun _ h9 => h9) rfl dX0_join_68 ?_
          refine lv_iload hx hb dX0_join_71 (lv_at hl 7 rfl) ?_
          refine lv_dup2_11 hx hb dX0_join_73 rfl rfl ?_
          refine r_iald (v := ((axJoinK x (x.2.2.1 i) (x.2.2.1 j) (x.2.2.2 i + d - x.2.2.2 j) k).2.2.2) k) hx hb hK hw 3 rfl k rfl (by omega) (by decide) rfl dX0_join_74 ?_
          refine lv_iload hx hb dX0_join_75 (lv_at hl 6 rfl) ?_
          refine lv_iadd hx hb dX0_join_77 ?_
          refine r_iast hx hb hK hw 3 rfl k rfl (by omega) (by decide) dX0_join_78 (ws' := wAx G a ((axJoinK x (x.2.2.1 i) (x.2.2.1 j) (x.2.2.2 i + d - x.2.2.2 j) k).1, (axJoinK x (x.2.2.1 i) (x.2.2.1 j) (x.2.2.2 i + d - x.2.2.2 j) k).2.1, (upd ((axJoinK x (x.2.2.1 i) (x.2.2.1 j) (x.2.2.2 i + d - x.2.2.2 j) k).2.2.1) k (x.2.2.1 i)), (upd ((axJoinK x (x.2.2.1 i) (x.2.2.1 j) (x.2.2.2 i + d - x.2.2.2 j) k).2.2.2) k ((((axJoinK x (x.2.2.1 i) (x.2.2.1 j) (x.2.2.2 i + d - x.2.2.2 j) k).2.2.2) k) + (((x.2.2.2 i) + d) - (x.2.2.2 j)))))) rfl (fun H locs hw => ?_)
          refine lv_iinc (v := nI (k + 1)) (lv' := [(7, .int (nI (k + 1))), (0, .ref a.1), (1, .int (nI i)), (2, .int (nI j)), (3, .int d), (4, .int (x.2.2.1 i)), (5, .int (x.2.2.1 j)), (6, .int (((x.2.2.2 i) + d) - (x.2.2.2 j)))]) hx hb dX0_join_79 hl (k := 7) rfl (nI_add k 1) (by decide) rfl (fun ls hl => ?_)
          refine lv_goto (tgt := 36) hx hb dX0_join_82 (by decide) ?_
          exact ih_36 (k + 1) (by omega) (by first | assumption | omega | rfl) _ _ _ (wW.eq (show wAx G a ((axJoinK x (x.2.2.1 i) (x.2.2.1 j) (x.2.2.2 i + d - x.2.2.2 j) k).1, (axJoinK x (x.2.2.1 i) (x.2.2.1 j) (x.2.2.2 i + d - x.2.2.2 j) k).2.1, (upd ((axJoinK x (x.2.2.1 i) (x.2.2.1 j) (x.2.2.2 i + d - x.2.2.2 j) k).2.2.1) k (x.2.2.1 i)), (upd ((axJoinK x (x.2.2.1 i) (x.2.2.1 j) (x.2.2.2 i + d - x.2.2.2 j) k).2.2.2) k ((((axJoinK x (x.2.2.1 i) (x.2.2.1 j) (x.2.2.2 i + d - x.2.2.2 j) k).2.2.2) k) + (((x.2.2.2 i) + d) - (x.2.2.2 j))))) = wAx G a (axJoinK x (x.2.2.1 i) (x.2.2.1 j) (x.2.2.2 i + d - x.2.2.2 j) (k + 1)) from (by simp only [axJoinK, if_pos c_55])) hw) (lv_sub hl [1, 2, 3, 4, 5, 6, 7, 0] rfl)
  exact loop_36 ((17 - 0) + 1) 0 (Nat.lt_succ_self _) (by first | assumption | omega | rfl) _ _ _ (wW.eq (show wAx G a x = wAx G a (axJoinK x (x.2.2.1 i) (x.2.2.1 j) (x.2.2.2 i + d - x.2.2.2 j) 0) from rfl) hw) (lv_sub hl [4, 5, 6, 7, 3, 2, 1, 0] rfl)

theorem wiX0_pinFreeGroups_pin_X0 : ∀ w ∈ wsX00, w ∈ wsX0_pinFreeGroups := by decide +kernel
theorem wmX0_pinFreeGroups_pin_0 : Cond.fieldLink RX0 21 "PartSketch$Axis" "freeGroups" "I" ∈ wsX0_pinFreeGroups := by decide +kernel
theorem wmX0_pinFreeGroups_pin_1 : Cond.fieldLink RX0 15 "PartSketch$Axis" "group" "[I" ∈ wsX0_pinFreeGroups := by decide +kernel
theorem wmX0_pinFreeGroups_pin_2 : Cond.fieldLink RX0 9 "PartSketch$Axis" "hint" "[I" ∈ wsX0_pinFreeGroups := by decide +kernel
set_option maxHeartbeats 4000000 in
set_option maxRecDepth 100000 in
/-- Axis.pinFreeGroups -/
theorem c_pin (l : Launch) (G : gT) (a : aAx) (x : tAx) (np : Nat) (hnp : np ≤ 16) (sz : Nat) : MV l yX0_pinFreeGroups wsX0_pinFreeGroups ({ frames := 1, cells := 0, slots := 0, locals := 27 }) G [.ref a.1, .int (nI np)] (wAx G a x) (wAx G a (axPinK x np)) sz 0 0 := by
  refine m_of (Qc := fun A => (va_Qv (fun (_ : Unit) => True) (fun _ t9 => wPost G A (wAx G a (axPinK x np)) t9) A)) (cc := cX0_pinFreeGroups) (maxL := 3) (ret := none) (by decide) rfl (Nat.le_of_ble_eq_true rfl) ?_
  intro p e s m A below meth c H locs ls hx hb hr hts hown hlocks hin hml hK hA hw hl
  have hl : lv_has ls 3 [(0, .ref a.1), (1, .int (nI np))] := hl
  refine lv_aload_n hx hb dX0_pinFreeGroups_0 rfl (lv_at hl 0 rfl) ?_
  refine lv_iconst (v := 0) hx hb dX0_pinFreeGroups_1 (by decide) ?_
  refine r_put (ci := 0) (v := .int 0) (ty := .int) (C := RX0) (T := TX0) (N := 4) hx hb hts wiX0_pinFreeGroups_pin_X0 tyX0 tyX0_ok nmX0 hown hK hw 0 rfl rfl 1 (by decide) wmX0_pinFreeGroups_pin_0 (fun _ h9 => h9) rfl (by decide +kernel) rfl rfl (Nat.le_of_ble_eq_true rfl) dX0_pinFreeGroups_2 (ws' := wAx G a (x.1, 0, x.2.2.1, x.2.2.2)) rfl (fun H locs hw => ?_)
  refine lv_iconst (v := 0) hx hb dX0_pinFreeGroups_5 (by decide) ?_
  refine lv_istore_n (lv' := [(2, .int 0), (0, .ref a.1), (1, .int (nI np))]) hx hb dX0_pinFreeGroups_6 rfl hl (by decide) rfl (fun ls hl => ?_)
  have loop_7 : ∀ (nf : Nat) (k : Nat) (hnf : (np - k) < nf) (hk : k ≤ np), ∀ (H : Heap) (locs : List Loc) (ls : Array Slot), wW G A s.heap (wAx G a (axPinK x k)) H locs → lv_has ls 3 [(0, .ref a.1), (1, .int (nI np)), (2, .int (nI k))] → W p l e ({ frames := 1, cells := 0, slots := 0, locals := 27 }) s m [.ref a.1, .int (nI np)].toArray below meth c H locs 0 0 (MQ below (va_Qv (fun (_ : Unit) => True) (fun _ t9 => wPost G A (wAx G a (axPinK x np)) t9) A) [.ref a.1, .int (nI np)].toArray s 0 0 A) (F0 m 7 ls []) := by
    intro nf
    induction nf with
    | zero => intro k hnf hk; exact absurd hnf (Nat.not_lt_zero _)
    | succ nf ih_7 =>
      intro k hnf hk H locs ls hw hl
      refine lv_iload_n hx hb dX0_pinFreeGroups_7 rfl (lv_at hl 2 rfl) ?_
      refine lv_iload_n hx hb dX0_pinFreeGroups_8 rfl (lv_at hl 1 rfl) ?_
      refine lv_icmp_ge (tgt := 57) hx hb dX0_pinFreeGroups_9 (by decide) (fun c_9 => ?_) (fun c_9 => ?_)
      · have hx_9 : np ≤ k := ct_ge (k := k) (n := np) (by omega) (by omega) c_9
        exact m_vret hx hb hr hlocks hK hw (Nat.le_of_ble_eq_true rfl) (Nat.le_of_ble_eq_true rfl) dX0_pinFreeGroups_57 (show wAx G a (axPinK x k) = wAx G a (axPinK x np) by rw [show k = np by omega])
      · have hc_9 : k < np := ct_nge (k := k) (n := np) (by omega) (by omega) c_9
        refine lv_aload_n hx hb dX0_pinFreeGroups_12 rfl (lv_at hl 0 rfl) ?_
        refine r_get (ci := 0) (v := .ref a.2.2.1) (C := RX0) (T := TX0) (N := 4) hx hb hts wiX0_pinFreeGroups_pin_X0 hown hK hw 0 rfl rfl 2 (by decide) wmX0_pinFreeGroups_pin_1 (fun _ h9 => h9) rfl dX0_pinFreeGroups_13 ?_
        refine lv_iload_n hx hb dX0_pinFreeGroups_16 rfl (lv_at hl 2 rfl) ?_
        refine r_iald (v := ((axPinK x k).2.2.1) k) hx hb hK hw 2 rfl k rfl (by omega) (by decide) rfl dX0_pinFreeGroups_17 ?_
        refine lv_aload_n hx hb dX0_pinFreeGroups_18 rfl (lv_at hl 0 rfl) ?_
        refine r_get (ci := 0) (v := .ref a.2.2.1) (C := RX0) (T := TX0) (N := 4) hx hb hts wiX0_pinFreeGroups_pin_X0 hown hK hw 0 rfl rfl 2 (by decide) wmX0_pinFreeGroups_pin_1 (fun _ h9 => h9) rfl dX0_pinFreeGroups_19 ?_
        refine lv_bipush (v := 16) hx hb dX0_pinFreeGroups_22 (by decide) ?_
        refine r_iald (v := ((axPinK x k).2.2.1) 16) hx hb hK hw 2 rfl 16 rfl (by omega) (by decide) rfl dX0_pinFreeGroups_24 ?_
        refine lv_icmp_eq (tgt := 51) hx hb dX0_pinFreeGroups_25 (by decide) (fun c_25 => ?_) (fun c_25 => ?_)
        · refine lv_iinc (v := nI (k + 1)) (lv' := [(2, .int (nI (k + 1))), (0, .ref a.1), (1, .int (nI np))]) hx hb dX0_pinFreeGroups_51 hl (k := 2) rfl (nI_add k 1) (by decide) rfl (fun ls hl => ?_)
          refine lv_goto (tgt := 7) hx hb dX0_pinFreeGroups_54 (by decide) ?_
          exact ih_7 (k + 1) (by omega) (by first | assumption | omega | rfl) _ _ _ (wW.eq (show wAx G a (axPinK x k) = wAx G a (axPinK x (k + 1)) from (by simp only [axPinK, if_pos c_25])) hw) (lv_sub hl [1, 2, 0] rfl)
        · refine lv_aload_n hx hb dX0_pinFreeGroups_28 rfl (lv_at hl 0 rfl) ?_
          refine lv_dup hx hb dX0_pinFreeGroups_29 rfl ?_
          refine r_get (ci := 0) (v := .int ((axPinK x k).2.1)) (C := RX0) (T := TX0) (N := 4) hx hb hts wiX0_pinFreeGroups_pin_X0 hown hK hw 0 rfl rfl 1 (by decide) wmX0_pinFreeGroups_pin_0 (fun _ h9 => h9) rfl dX0_pinFreeGroups_30 ?_
          refine lv_iconst (v := 1) hx hb dX0_pinFreeGroups_33 (by decide) ?_
          refine lv_iadd hx hb dX0_pinFreeGroups_34 ?_
          refine r_put (ci := 0) (v := .int (((axPinK x k).2.1) + 1)) (ty := .int) (C := RX0) (T := TX0) (N := 4) hx hb hts wiX0_pinFreeGroups_pin_X0 tyX0 tyX0_ok nmX0 hown hK hw 0 rfl rfl 1 (by decide) wmX0_pinFreeGroups_pin_0 (fun _ h9 => h9) rfl (by decide +kernel) rfl rfl (Nat.le_of_ble_eq_true rfl) dX0_pinFreeGroups_35 (ws' := wAx G a ((axPinK x k).1, ((axPinK x k).2.1) + 1, (axPinK x k).2.2.1, (axPinK x k).2.2.2)) rfl (fun H locs hw => ?_)
          refine lv_aload_n hx hb dX0_pinFreeGroups_38 rfl (lv_at hl 0 rfl) ?_
          refine lv_bipush (v := 16) hx hb dX0_pinFreeGroups_39 (by decide) ?_
          refine lv_iload_n hx hb dX0_pinFreeGroups_41 rfl (lv_at hl 2 rfl) ?_
          refine lv_aload_n hx hb dX0_pinFreeGroups_42 rfl (lv_at hl 0 rfl) ?_
          refine r_get (ci := 0) (v := .ref a.2.1) (C := RX0) (T := TX0) (N := 4) hx hb hts wiX0_pinFreeGroups_pin_X0 hown hK hw 0 rfl rfl 0 (by decide) wmX0_pinFreeGroups_pin_2 (fun _ h9 => h9) rfl dX0_pinFreeGroups_43 ?_
          refine lv_iload_n hx hb dX0_pinFreeGroups_46 rfl (lv_at hl 2 rfl) ?_
          refine r_iald (v := ((axPinK x k).1) k) hx hb hK hw 1 rfl k rfl (by omega) (by decide) rfl dX0_pinFreeGroups_47 ?_
          have hwc : wW G A s.heap (([] : va_W) ++ ((wAx G a ((axPinK x k).1, ((axPinK x k).2.1) + 1, (axPinK x k).2.2.1, (axPinK x k).2.2.2)) ++ ([] : va_W))) H locs := hw
          refine r_callv (u := ([] : va_W)) (w := wAx G a ((axPinK x k).1, ((axPinK x k).2.1) + 1, (axPinK x k).2.2.1, (axPinK x k).2.2.2)) (v := ([] : va_W)) (va_runV (As := [.int 16, .int (nI k), .int (((axPinK x k).1) k)]) (rest := []) ⟨hx, hb, hml, hown, hts⟩ (c_join l G a ((axPinK x k).1, ((axPinK x k).2.1) + 1, (axPinK x k).2.2.1, (axPinK x k).2.2.2) 16 k (((axPinK x k).1) k) (by first | assumption | omega | decide) (by first | assumption | omega | decide) H.size) (cwV 3 hts gX0_pinFreeGroups_X0_join rfl rfl rfl (by decide +kernel) ⟨Nat.le_of_ble_eq_true rfl, Nat.le_of_ble_eq_true rfl⟩) (r_preV (ci := 0) (q0 := 0) hK hwc rfl rfl rfl) rfl rfl hl.1 rfl (lv_room (Nat.le_of_ble_eq_true rfl)) dX0_pinFreeGroups_48 ⟨Nat.le_of_ble_eq_true rfl, Nat.le_of_ble_eq_true rfl⟩) hwc hA rfl rfl (fun H locs hw => ?_)
          have hw : wW G A s.heap (wAx G a (axJoin ((axPinK x k).1, ((axPinK x k).2.1) + 1, (axPinK x k).2.2.1, (axPinK x k).2.2.2) 16 k (((axPinK x k).1) k))) H locs := hw
          refine lv_iinc (v := nI (k + 1)) (lv' := [(2, .int (nI (k + 1))), (0, .ref a.1), (1, .int (nI np))]) hx hb dX0_pinFreeGroups_51 hl (k := 2) rfl (nI_add k 1) (by decide) rfl (fun ls hl => ?_)
          refine lv_goto (tgt := 7) hx hb dX0_pinFreeGroups_54 (by decide) ?_
          exact ih_7 (k + 1) (by omega) (by first | assumption | omega | rfl) _ _ _ (wW.eq (show wAx G a (axJoin ((axPinK x k).1, ((axPinK x k).2.1) + 1, (axPinK x k).2.2.1, (axPinK x k).2.2.2) 16 k (((axPinK x k).1) k)) = wAx G a (axPinK x (k + 1)) from (by simp only [axPinK, if_neg c_25])) hw) (lv_sub hl [1, 2, 0] rfl)
  exact loop_7 ((np - 0) + 1) 0 (Nat.lt_succ_self _) (by first | assumption | omega | rfl) _ _ _ (wW.eq (show wAx G a (x.1, 0, x.2.2.1, x.2.2.2) = wAx G a (axPinK x 0) from rfl) hw) (lv_sub hl [1, 2, 0] rfl)
end
section
/-! PartSketch$WishRows: what its methods compute, written as they do it -/
def gap {α : Type} (f : Nat → α) (w n : Nat) : Nat → α := va_cpy f f (w + 1) w (n - w - 1)
def rwDropK (r : tRw) (w : Nat) : Nat → tRw
  | 0 => (r.1, gap r.2.1 w r.1, gap r.2.2.1 w r.1, gap r.2.2.2.1 w r.1, gap r.2.2.2.2.1 w r.1, r.2.2.2.2.2.1, r.2.2.2.2.2.2)
  | k + 1 => ((rwDropK r w k).1, (rwDropK r w k).2.1, (rwDropK r w k).2.2.1, (rwDropK r w k).2.2.2.1, (rwDropK r w k).2.2.2.2.1, (rwDropK r w k).2.2.2.2.2.1, updF (rwDropK r w k).2.2.2.2.2.2 k (gap ((rwDropK r w k).2.2.2.2.2.2 k) w (rwDropK r w k).1))
theorem rwDropK_cnt (r : tRw) (w : Nat) : ∀ k, (rwDropK r w k).1 = r.1
  | 0 => rfl
  | k + 1 => rwDropK_cnt r w k
def rwDrop (r : tRw) (w : Nat) : tRw := ((rwDropK r w 4).1 - 1, (rwDropK r w 4).2)
def rwAppK (r : tRw) (kd : Int32) (i j : Nat) (d : Int32) : Nat → tRw
  | 0 => (r.1, upd r.2.1 r.1 kd, updN r.2.2.1 r.1 i, updN r.2.2.2.1 r.1 j, upd r.2.2.2.2.1 r.1 d, r.2.2.2.2.2.1, r.2.2.2.2.2.2)
  | k + 1 => ((rwAppK r kd i j d k).1, (rwAppK r kd i j d k).2.1, (rwAppK r kd i j d k).2.2.1, (rwAppK r kd i j d k).2.2.2.1, (rwAppK r kd i j d k).2.2.2.2.1, (rwAppK r kd i j d k).2.2.2.2.2.1, updF (rwAppK r kd i j d k).2.2.2.2.2.2 k (upd ((rwAppK r kd i j d k).2.2.2.2.2.2 k) r.1 101))
def rwApp (r : tRw) (kd : Int32) (i j : Nat) (d : Int32) : tRw := ((rwAppK r kd i j d 4).1 + 1, (rwAppK r kd i j d 4).2)
def rwCountK (r : tRw) (v : Nat) : Nat → Int32
  | 0 => 0
  | k + 1 => if r.2.2.2.2.2.2 v k = 101 then rwCountK r v k else rwCountK r v k + 1
def rwTakeK (r : tRw) (v : Nat) : Nat → Int32 × (Nat → Int32)
  | 0 => (0, r.2.2.2.2.1)
  | k + 1 => if r.2.2.2.2.2.2 v k = 101 then rwTakeK r v k else if r.2.2.2.2.2.2 v k = (rwTakeK r v k).2 k then rwTakeK r v k else ((rwTakeK r v k).1 + 1, upd (rwTakeK r v k).2 k (r.2.2.2.2.2.2 v k))

theorem wiX3_closeGap_closeGap_kd_X3 : ∀ w ∈ wsX30, w ∈ wsX3_closeGap := by decide +kernel
theorem wmX3_closeGap_closeGap_kd_0 : Cond.fieldLink RX3 32 "PartSketch$WishRows" "count" "I" ∈ wsX3_closeGap := by decide +kernel
theorem wmX3_closeGap_closeGap_kd_1 : Cond.methodLink RX3 40 arraycopyName ∈ wsX3_closeGap := by decide +kernel
theorem wmX3_closeGap_closeGap_kd_2 : Cond.native arraycopyName ∈ wsX3_closeGap := by decide +kernel
theorem wmX3_closeGap_closeGap_kd_3 : Cond.static arraycopyName ∈ wsX3_closeGap := by decide +kernel
theorem wmX3_closeGap_closeGap_kd_4 : Cond.initialized "java/lang/System" ∈ wsX3_closeGap := by decide +kernel
set_option maxHeartbeats 4000000 in
set_option maxRecDepth 100000 in
/-- WishRows.closeGap -/
theorem c_closeGap_kd (l : Launch) (G : gT) (a : aRw) (r : tRw) (w : Nat) (hwn : w < r.1) (hc : r.1 ≤ 40) (sz : Nat) : MV l yX3_closeGap wsX3_closeGap ({ frames := 1, cells := 0, slots := 0, locals := 60 }) G [.ref a.1, .ref a.2.1, .int (nI w)] (wRw G a r) (wRw G a (r.1, (gap r.2.1 w r.1), r.2.2.1, r.2.2.2.1, r.2.2.2.2.1, r.2.2.2.2.2.1, r.2.2.2.2.2.2)) sz 0 0 := by
  refine m_of (Qc := fun A => (va_Qv (fun (_ : Unit) => True) (fun _ t9 => wPost G A (wRw G a (r.1, (gap r.2.1 w r.1), r.2.2.1, r.2.2.2.1, r.2.2.2.2.1, r.2.2.2.2.2.1, r.2.2.2.2.2.2)) t9) A)) (cc := cX3_closeGap) (maxL := 3) (ret := none) (by decide) rfl (Nat.le_of_ble_eq_true rfl) ?_
  intro p e s m A below meth c H locs ls hx hb hr hts hown hlocks hin hml hK hA hw hl
  have hl : lv_has ls 3 [(0, .ref a.1), (1, .ref a.2.1), (2, .int (nI w))] := hl
  refine lv_aload_n hx hb dX3_closeGap_0 rfl (lv_at hl 1 rfl) ?_
  refine lv_iload_n hx hb dX3_closeGap_1 rfl (lv_at hl 2 rfl) ?_
  refine lv_iconst (v := 1) hx hb dX3_closeGap_2 (by decide) ?_
  refine lv_iadd hx hb dX3_closeGap_3 ?_
  refine r_top (y := nI (w + 1)) (nI_add w 1) ?_
  refine lv_aload_n hx hb dX3_closeGap_4 rfl (lv_at hl 1 rfl) ?_
  refine lv_iload_n hx hb dX3_closeGap_5 rfl (lv_at hl 2 rfl) ?_
  refine lv_aload_n hx hb dX3_closeGap_6 rfl (lv_at hl 0 rfl) ?_
  refine r_get (ci := 3) (v := .int (nI r.1)) (C := RX3) (T := TX3) (N := 7) hx hb hts wiX3_closeGap_closeGap_kd_X3 hown hK hw 0 rfl rfl 0 (by decide) wmX3_closeGap_closeGap_kd_0 (fun _ h9 => h9) rfl dX3_closeGap_7 ?_
  refine lv_iload_n hx hb dX3_closeGap_10 rfl (lv_at hl 2 rfl) ?_
  refine lv_isub hx hb dX3_closeGap_11 ?_
  refine r_top (y := nI (r.1 - w)) (pk_sub (a := r.1) (b := w) (by omega)) ?_
  refine lv_iconst (v := 1) hx hb dX3_closeGap_12 (by decide) ?_
  refine lv_isub hx hb dX3_closeGap_13 ?_
  refine r_top (y := nI (r.1 - w - 1)) (pk_sub (a := r.1 - w) (b := 1) (by omega)) ?_
  refine r_copyi (ws' := wRw G a (r.1, (va_cpy r.2.1 r.2.1 (w + 1) w (r.1 - w - 1)), r.2.2.1, r.2.2.2.1, r.2.2.2.2.1, r.2.2.2.2.2.1, r.2.2.2.2.2.2)) hx hb (hml.trans hl.1.symm) hown (hts _ wmX3_closeGap_closeGap_kd_1) (hts _ wmX3_closeGap_closeGap_kd_2) (hts _ wmX3_closeGap_closeGap_kd_3) (hts _ wmX3_closeGap_closeGap_kd_4) hK hw 1 1 rfl rfl (sp := (w + 1)) (dp := w) (n := (r.1 - w - 1)) rfl rfl rfl (by omega) (by omega) (by decide) (by decide) (Nat.le_of_ble_eq_true rfl) (Nat.le_of_ble_eq_true rfl) dX3_closeGap_14 rfl (fun H locs hw => ?_)
  exact m_vret hx hb hr hlocks hK hw (Nat.le_of_ble_eq_true rfl) (Nat.le_of_ble_eq_true rfl) dX3_closeGap_17 rfl

theorem wiX3_closeGap_closeGap_on_X3 : ∀ w ∈ wsX30, w ∈ wsX3_closeGap := by decide +kernel
theorem wmX3_closeGap_closeGap_on_0 : Cond.fieldLink RX3 32 "PartSketch$WishRows" "count" "I" ∈ wsX3_closeGap := by decide +kernel
theorem wmX3_closeGap_closeGap_on_1 : Cond.methodLink RX3 40 arraycopyName ∈ wsX3_closeGap := by decide +kernel
theorem wmX3_closeGap_closeGap_on_2 : Cond.native arraycopyName ∈ wsX3_closeGap := by decide +kernel
theorem wmX3_closeGap_closeGap_on_3 : Cond.static arraycopyName ∈ wsX3_closeGap := by decide +kernel
theorem wmX3_closeGap_closeGap_on_4 : Cond.initialized "java/lang/System" ∈ wsX3_closeGap := by decide +kernel
set_option maxHeartbeats 4000000 in
set_option maxRecDepth 100000 in
/-- WishRows.closeGap -/
theorem c_closeGap_on (l : Launch) (G : gT) (a : aRw) (r : tRw) (w : Nat) (hwn : w < r.1) (hc : r.1 ≤ 40) (sz : Nat) : MV l yX3_closeGap wsX3_closeGap ({ frames := 1, cells := 0, slots := 0, locals := 60 }) G [.ref a.1, .ref a.2.2.1, .int (nI w)] (wRw G a r) (wRw G a (r.1, r.2.1, (gap r.2.2.1 w r.1), r.2.2.2.1, r.2.2.2.2.1, r.2.2.2.2.2.1, r.2.2.2.2.2.2)) sz 0 0 := by
  refine m_of (Qc := fun A => (va_Qv (fun (_ : Unit) => True) (fun _ t9 => wPost G A (wRw G a (r.1, r.2.1, (gap r.2.2.1 w r.1), r.2.2.2.1, r.2.2.2.2.1, r.2.2.2.2.2.1, r.2.2.2.2.2.2)) t9) A)) (cc := cX3_closeGap) (maxL := 3) (ret := none) (by decide) rfl (Nat.le_of_ble_eq_true rfl) ?_
  intro p e s m A below meth c H locs ls hx hb hr hts hown hlocks hin hml hK hA hw hl
  have hl : lv_has ls 3 [(0, .ref a.1), (1, .ref a.2.2.1), (2, .int (nI w))] := hl
  refine lv_aload_n hx hb dX3_closeGap_0 rfl (lv_at hl 1 rfl) ?_
  refine lv_iload_n hx hb dX3_closeGap_1 rfl (lv_at hl 2 rfl) ?_
  refine lv_iconst (v := 1) hx hb dX3_closeGap_2 (by decide) ?_
  refine lv_iadd hx hb dX3_closeGap_3 ?_
  refine r_top (y := nI (w + 1)) (nI_add w 1) ?_
  refine lv_aload_n hx hb dX3_closeGap_4 rfl (lv_at hl 1 rfl) ?_
  refine lv_iload_n hx hb dX3_closeGap_5 rfl (lv_at hl 2 rfl) ?_
  refine lv_aload_n hx hb dX3_closeGap_6 rfl (lv_at hl 0 rfl) ?_
  refine r_get (ci := 3) (v := .int (nI r.1)) (C := RX3) (T := TX3) (N := 7) hx hb hts wiX3_closeGap_closeGap_on_X3 hown hK hw 0 rfl rfl 0 (by decide) wmX3_closeGap_closeGap_on_0 (fun _ h9 => h9) rfl dX3_closeGap_7 ?_
  refine lv_iload_n hx hb dX3_closeGap_10 rfl (lv_at hl 2 rfl) ?_
  refine lv_isub hx hb dX3_closeGap_11 ?_
  refine r_top (y := nI (r.1 - w)) (pk_sub (a := r.1) (b := w) (by omega)) ?_
  refine lv_iconst (v := 1) hx hb dX3_closeGap_12 (by decide) ?_
  refine lv_isub hx hb dX3_closeGap_13 ?_
  refine r_top (y := nI (r.1 - w - 1)) (pk_sub (a := r.1 - w) (b := 1) (by omega)) ?_
  refine r_copyi (ws' := wRw G a (r.1, r.2.1, (va_cpy r.2.2.1 r.2.2.1 (w + 1) w (r.1 - w - 1)), r.2.2.2.1, r.2.2.2.2.1, r.2.2.2.2.2.1, r.2.2.2.2.2.2)) hx hb (hml.trans hl.1.symm) hown (hts _ wmX3_closeGap_closeGap_on_1) (hts _ wmX3_closeGap_closeGap_on_2) (hts _ wmX3_closeGap_closeGap_on_3) (hts _ wmX3_closeGap_closeGap_on_4) hK hw 2 2 rfl rfl (sp := (w + 1)) (dp := w) (n := (r.1 - w - 1)) rfl rfl rfl (by omega) (by omega) (by decide) (by decide) (Nat.le_of_ble_eq_true rfl) (Nat.le_of_ble_eq_true rfl) dX3_closeGap_14 (by rw [cpy_nI]; rfl) (fun H locs hw => ?_)
  exact m_vret hx hb hr hlocks hK hw (Nat.le_of_ble_eq_true rfl) (Nat.le_of_ble_eq_true rfl) dX3_closeGap_17 rfl

theorem wiX3_closeGap_closeGap_ot_X3 : ∀ w ∈ wsX30, w ∈ wsX3_closeGap := by decide +kernel
theorem wmX3_closeGap_closeGap_ot_0 : Cond.fieldLink RX3 32 "PartSketch$WishRows" "count" "I" ∈ wsX3_closeGap := by decide +kernel
theorem wmX3_closeGap_closeGap_ot_1 : Cond.methodLink RX3 40 arraycopyName ∈ wsX3_closeGap := by decide +kernel
theorem wmX3_closeGap_closeGap_ot_2 : Cond.native arraycopyName ∈ wsX3_closeGap := by decide +kernel
theorem wmX3_closeGap_closeGap_ot_3 : Cond.static arraycopyName ∈ wsX3_closeGap := by decide +kernel
theorem wmX3_closeGap_closeGap_ot_4 : Cond.initialized "java/lang/System" ∈ wsX3_closeGap := by decide +kernel
set_option maxHeartbeats 4000000 in
set_option maxRecDepth 100000 in
/-- WishRows.closeGap -/
theorem c_closeGap_ot (l : Launch) (G : gT) (a : aRw) (r : tRw) (w : Nat) (hwn : w < r.1) (hc : r.1 ≤ 40) (sz : Nat) : MV l yX3_closeGap wsX3_closeGap ({ frames := 1, cells := 0, slots := 0, locals := 60 }) G [.ref a.1, .ref a.2.2.2.1, .int (nI w)] (wRw G a r) (wRw G a (r.1, r.2.1, r.2.2.1, (gap r.2.2.2.1 w r.1), r.2.2.2.2.1, r.2.2.2.2.2.1, r.2.2.2.2.2.2)) sz 0 0 := by
  refine m_of (Qc := fun A => (va_Qv (fun (_ : Unit) => True) (fun _ t9 => wPost G A (wRw G a (r.1, r.2.1, r.2.2.1, (gap r.2.2.2.1 w r.1), r.2.2.2.2.1, r.2.2.2.2.2.1, r.2.2.2.2.2.2)) t9) A)) (cc := cX3_closeGap) (maxL := 3) (ret := none) (by decide) rfl (Nat.le_of_ble_eq_true rfl) ?_
  intro p e s m A below meth c H locs ls hx hb hr hts hown hlocks hin hml hK hA hw hl
  have hl : lv_has ls 3 [(0, .ref a.1), (1, .ref a.2.2.2.1), (2, .int (nI w))] := hl
  refine lv_aload_n hx hb dX3_closeGap_0 rfl (lv_at hl 1 rfl) ?_
  refine lv_iload_n hx hb dX3_closeGap_1 rfl (lv_at hl 2 rfl) ?_
  refine lv_iconst (v := 1) hx hb dX3_closeGap_2 (by decide) ?_
  refine lv_iadd hx hb dX3_closeGap_3 ?_
  refine r_top (y := nI (w + 1)) (nI_add w 1) ?_
  refine lv_aload_n hx hb dX3_closeGap_4 rfl (lv_at hl 1 rfl) ?_
  refine lv_iload_n hx hb dX3_closeGap_5 rfl (lv_at hl 2 rfl) ?_
  refine lv_aload_n hx hb dX3_closeGap_6 rfl (lv_at hl 0 rfl) ?_
  refine r_get (ci := 3) (v := .int (nI r.1)) (C := RX3) (T := TX3) (N := 7) hx hb hts wiX3_closeGap_closeGap_ot_X3 hown hK hw 0 rfl rfl 0 (by decide) wmX3_closeGap_closeGap_ot_0 (fun _ h9 => h9) rfl dX3_closeGap_7 ?_
  refine lv_iload_n hx hb dX3_closeGap_10 rfl (lv_at hl 2 rfl) ?_
  refine lv_isub hx hb dX3_closeGap_11 ?_
  refine r_top (y := nI (r.1 - w)) (pk_sub (a := r.1) (b := w) (by omega)) ?_
  refine lv_iconst (v := 1) hx hb dX3_closeGap_12 (by decide) ?_
  refine lv_isub hx hb dX3_closeGap_13 ?_
  refine r_top (y := nI (r.1 - w - 1)) (pk_sub (a := r.1 - w) (b := 1) (by omega)) ?_
  refine r_copyi (ws' := wRw G a (r.1, r.2.1, r.2.2.1, (va_cpy r.2.2.2.1 r.2.2.2.1 (w + 1) w (r.1 - w - 1)), r.2.2.2.2.1, r.2.2.2.2.2.1, r.2.2.2.2.2.2)) hx hb (hml.trans hl.1.symm) hown (hts _ wmX3_closeGap_closeGap_ot_1) (hts _ wmX3_closeGap_closeGap_ot_2) (hts _ wmX3_closeGap_closeGap_ot_3) (hts _ wmX3_closeGap_closeGap_ot_4) hK hw 3 3 rfl rfl (sp := (w + 1)) (dp := w) (n := (r.1 - w - 1)) rfl rfl rfl (by omega) (by omega) (by decide) (by decide) (Nat.le_of_ble_eq_true rfl) (Nat.le_of_ble_eq_true rfl) dX3_closeGap_14 (by rw [cpy_nI]; rfl) (fun H locs hw => ?_)
  exact m_vret hx hb hr hlocks hK hw (Nat.le_of_ble_eq_true rfl) (Nat.le_of_ble_eq_true rfl) dX3_closeGap_17 rfl

theorem wiX3_closeGap_closeGap_sz_X3 : ∀ w ∈ wsX30, w ∈ wsX3_closeGap := by decide +kernel
theorem wmX3_closeGap_closeGap_sz_0 : Cond.fieldLink RX3 32 "PartSketch$WishRows" "count" "I" ∈ wsX3_closeGap := by decide +kernel
theorem wmX3_closeGap_closeGap_sz_1 : Cond.methodLink RX3 40 arraycopyName ∈ wsX3_closeGap := by decide +kernel
theorem wmX3_closeGap_closeGap_sz_2 : Cond.native arraycopyName ∈ wsX3_closeGap := by decide +kernel
theorem wmX3_closeGap_closeGap_sz_3 : Cond.static arraycopyName ∈ wsX3_closeGap := by decide +kernel
theorem wmX3_closeGap_closeGap_sz_4 : Cond.initialized "java/lang/System" ∈ wsX3_closeGap := by decide +kernel
set_option maxHeartbeats 4000000 in
set_option maxRecDepth 100000 in
/-- WishRows.closeGap -/
theorem c_closeGap_sz (l : Launch) (G : gT) (a : aRw) (r : tRw) (w : Nat) (hwn : w < r.1) (hc : r.1 ≤ 40) (sz : Nat) : MV l yX3_closeGap wsX3_closeGap ({ frames := 1, cells := 0, slots := 0, locals := 60 }) G [.ref a.1, .ref a.2.2.2.2.1, .int (nI w)] (wRw G a r) (wRw G a (r.1, r.2.1, r.2.2.1, r.2.2.2.1, (gap r.2.2.2.2.1 w r.1), r.2.2.2.2.2.1, r.2.2.2.2.2.2)) sz 0 0 := by
  refine m_of (Qc := fun A => (va_Qv (fun (_ : Unit) => True) (fun _ t9 => wPost G A (wRw G a (r.1, r.2.1, r.2.2.1, r.2.2.2.1, (gap r.2.2.2.2.1 w r.1), r.2.2.2.2.2.1, r.2.2.2.2.2.2)) t9) A)) (cc := cX3_closeGap) (maxL := 3) (ret := none) (by decide) rfl (Nat.le_of_ble_eq_true rfl) ?_
  intro p e s m A below meth c H locs ls hx hb hr hts hown hlocks hin hml hK hA hw hl
  have hl : lv_has ls 3 [(0, .ref a.1), (1, .ref a.2.2.2.2.1), (2, .int (nI w))] := hl
  refine lv_aload_n hx hb dX3_closeGap_0 rfl (lv_at hl 1 rfl) ?_
  refine lv_iload_n hx hb dX3_closeGap_1 rfl (lv_at hl 2 rfl) ?_
  refine lv_iconst (v := 1) hx hb dX3_closeGap_2 (by decide) ?_
  refine lv_iadd hx hb dX3_closeGap_3 ?_
  refine r_top (y := nI (w + 1)) (nI_add w 1) ?_
  refine lv_aload_n hx hb dX3_closeGap_4 rfl (lv_at hl 1 rfl) ?_
  refine lv_iload_n hx hb dX3_closeGap_5 rfl (lv_at hl 2 rfl) ?_
  refine lv_aload_n hx hb dX3_closeGap_6 rfl (lv_at hl 0 rfl) ?_
  refine r_get (ci := 3) (v := .int (nI r.1)) (C := RX3) (T := TX3) (N := 7) hx hb hts wiX3_closeGap_closeGap_sz_X3 hown hK hw 0 rfl rfl 0 (by decide) wmX3_closeGap_closeGap_sz_0 (fun _ h9 => h9) rfl dX3_closeGap_7 ?_
  refine lv_iload_n hx hb dX3_closeGap_10 rfl (lv_at hl 2 rfl) ?_
  refine lv_isub hx hb dX3_closeGap_11 ?_
  refine r_top (y := nI (r.1 - w)) (pk_sub (a := r.1) (b := w) (by omega)) ?_
  refine lv_iconst (v := 1) hx hb dX3_closeGap_12 (by decide) ?_
  refine lv_isub hx hb dX3_closeGap_13 ?_
  refine r_top (y := nI (r.1 - w - 1)) (pk_sub (a := r.1 - w) (b := 1) (by omega)) ?_
  refine r_copyi (ws' := wRw G a (r.1, r.2.1, r.2.2.1, r.2.2.2.1, (va_cpy r.2.2.2.2.1 r.2.2.2.2.1 (w + 1) w (r.1 - w - 1)), r.2.2.2.2.2.1, r.2.2.2.2.2.2)) hx hb (hml.trans hl.1.symm) hown (hts _ wmX3_closeGap_closeGap_sz_1) (hts _ wmX3_closeGap_closeGap_sz_2) (hts _ wmX3_closeGap_closeGap_sz_3) (hts _ wmX3_closeGap_closeGap_sz_4) hK hw 4 4 rfl rfl (sp := (w + 1)) (dp := w) (n := (r.1 - w - 1)) rfl rfl rfl (by omega) (by omega) (by decide) (by decide) (Nat.le_of_ble_eq_true rfl) (Nat.le_of_ble_eq_true rfl) dX3_closeGap_14 rfl (fun H locs hw => ?_)
  exact m_vret hx hb hr hlocks hK hw (Nat.le_of_ble_eq_true rfl) (Nat.le_of_ble_eq_true rfl) dX3_closeGap_17 rfl

theorem wiX3_closeGap_closeGap_td_X3 : ∀ w ∈ wsX30, w ∈ wsX3_closeGap := by decide +kernel
theorem wmX3_closeGap_closeGap_td_0 : Cond.fieldLink RX3 32 "PartSketch$WishRows" "count" "I" ∈ wsX3_closeGap := by decide +kernel
theorem wmX3_closeGap_closeGap_td_1 : Cond.methodLink RX3 40 arraycopyName ∈ wsX3_closeGap := by decide +kernel
theorem wmX3_closeGap_closeGap_td_2 : Cond.native arraycopyName ∈ wsX3_closeGap := by decide +kernel
theorem wmX3_closeGap_closeGap_td_3 : Cond.static arraycopyName ∈ wsX3_closeGap := by decide +kernel
theorem wmX3_closeGap_closeGap_td_4 : Cond.initialized "java/lang/System" ∈ wsX3_closeGap := by decide +kernel
set_option maxHeartbeats 4000000 in
set_option maxRecDepth 100000 in
/-- WishRows.closeGap -/
theorem c_closeGap_td (l : Launch) (G : gT) (a : aRw) (r : tRw) (w : Nat) (v : Nat) (hwn : w < r.1) (hc : r.1 ≤ 40) (hv : v < 4) (sz : Nat) : MV l yX3_closeGap wsX3_closeGap ({ frames := 1, cells := 0, slots := 0, locals := 60 }) G [.ref a.1, .ref (a.2.2.2.2.2.2.2 v), .int (nI w)] (wRw G a r) (wRw G a (r.1, r.2.1, r.2.2.1, r.2.2.2.1, r.2.2.2.2.1, r.2.2.2.2.2.1, (updF r.2.2.2.2.2.2 v (gap (r.2.2.2.2.2.2 v) w r.1)))) sz 0 0 := by
  refine m_of (Qc := fun A => (va_Qv (fun (_ : Unit) => True) (fun _ t9 => wPost G A (wRw G a (r.1, r.2.1, r.2.2.1, r.2.2.2.1, r.2.2.2.2.1, r.2.2.2.2.2.1, (updF r.2.2.2.2.2.2 v (gap (r.2.2.2.2.2.2 v) w r.1)))) t9) A)) (cc := cX3_closeGap) (maxL := 3) (ret := none) (by decide) rfl (Nat.le_of_ble_eq_true rfl) ?_
  intro p e s m A below meth c H locs ls hx hb hr hts hown hlocks hin hml hK hA hw hl
  have hl : lv_has ls 3 [(0, .ref a.1), (1, .ref (a.2.2.2.2.2.2.2 v)), (2, .int (nI w))] := hl
  refine lv_aload_n hx hb dX3_closeGap_0 rfl (lv_at hl 1 rfl) ?_
  refine lv_iload_n hx hb dX3_closeGap_1 rfl (lv_at hl 2 rfl) ?_
  refine lv_iconst (v := 1) hx hb dX3_closeGap_2 (by decide) ?_
  refine lv_iadd hx hb dX3_closeGap_3 ?_
  refine r_top (y := nI (w + 1)) (nI_add w 1) ?_
  refine lv_aload_n hx hb dX3_closeGap_4 rfl (lv_at hl 1 rfl) ?_
  refine lv_iload_n hx hb dX3_closeGap_5 rfl (lv_at hl 2 rfl) ?_
  refine lv_aload_n hx hb dX3_closeGap_6 rfl (lv_at hl 0 rfl) ?_
  refine r_get (ci := 3) (v := .int (nI r.1)) (C := RX3) (T := TX3) (N := 7) hx hb hts wiX3_closeGap_closeGap_td_X3 hown hK hw 0 rfl rfl 0 (by decide) wmX3_closeGap_closeGap_td_0 (fun _ h9 => h9) rfl dX3_closeGap_7 ?_
  refine lv_iload_n hx hb dX3_closeGap_10 rfl (lv_at hl 2 rfl) ?_
  refine lv_isub hx hb dX3_closeGap_11 ?_
  refine r_top (y := nI (r.1 - w)) (pk_sub (a := r.1) (b := w) (by omega)) ?_
  refine lv_iconst (v := 1) hx hb dX3_closeGap_12 (by decide) ?_
  refine lv_isub hx hb dX3_closeGap_13 ?_
  refine r_top (y := nI (r.1 - w - 1)) (pk_sub (a := r.1 - w) (b := 1) (by omega)) ?_
  refine r_copyi (ws' := wRw G a (r.1, r.2.1, r.2.2.1, r.2.2.2.1, r.2.2.2.2.1, r.2.2.2.2.2.1, (updF r.2.2.2.2.2.2 v (va_cpy (r.2.2.2.2.2.2 v) (r.2.2.2.2.2.2 v) (w + 1) w (r.1 - w - 1))))) hx hb (hml.trans hl.1.symm) hown (hts _ wmX3_closeGap_closeGap_td_1) (hts _ wmX3_closeGap_closeGap_td_2) (hts _ wmX3_closeGap_closeGap_td_3) (hts _ wmX3_closeGap_closeGap_td_4) hK hw (7 + v) (7 + v) (rw_at (by omega)) (rw_at (by omega)) (sp := (w + 1)) (dp := w) (n := (r.1 - w - 1)) rfl rfl rfl (by omega) (by omega) (by decide) (by decide) (Nat.le_of_ble_eq_true rfl) (Nat.le_of_ble_eq_true rfl) dX3_closeGap_14 (rw_set (G := G) (a := a) (r := r) (f := (va_cpy (r.2.2.2.2.2.2 v) (r.2.2.2.2.2.2 v) (w + 1) w (r.1 - w - 1))) (v := v) (by omega)) (fun H locs hw => ?_)
  exact m_vret hx hb hr hlocks hK hw (Nat.le_of_ble_eq_true rfl) (Nat.le_of_ble_eq_true rfl) dX3_closeGap_17 rfl

theorem wiX3_drop_drop_X3 : ∀ w ∈ wsX30, w ∈ wsX3_drop := by decide +kernel
theorem wmX3_drop_drop_0 : Cond.fieldLink RX3 9 "PartSketch$WishRows" "kind" "[I" ∈ wsX3_drop := by decide +kernel
theorem wmX3_drop_drop_1 : Cond.fieldLink RX3 15 "PartSketch$WishRows" "one" "[I" ∈ wsX3_drop := by decide +kernel
theorem wmX3_drop_drop_2 : Cond.fieldLink RX3 18 "PartSketch$WishRows" "other" "[I" ∈ wsX3_drop := by decide +kernel
theorem wmX3_drop_drop_3 : Cond.fieldLink RX3 21 "PartSketch$WishRows" "size" "[I" ∈ wsX3_drop := by decide +kernel
theorem wmX3_drop_drop_4 : Cond.fieldLink RX3 32 "PartSketch$WishRows" "count" "I" ∈ wsX3_drop := by decide +kernel
theorem wmX3_drop_drop_5 : Cond.fieldLink RX3 29 "PartSketch$WishRows" "told" "[[I" ∈ wsX3_drop := by decide +kernel
set_option maxHeartbeats 4000000 in
set_option maxRecDepth 100000 in
/-- WishRows.drop -/
theorem c_drop (l : Launch) (G : gT) (a : aRw) (r : tRw) (w : Nat) (hwn : w < r.1) (hc : r.1 ≤ 40) (sz : Nat) : MV l yX3_drop wsX3_drop ({ frames := 2, cells := 0, slots := 0, locals := 82 }) G [.ref a.1, .int (nI w)] (wRw G a r) (wRw G a (rwDrop r w)) sz 0 0 := by
  refine m_of (Qc := fun A => (va_Qv (fun (_ : Unit) => True) (fun _ t9 => wPost G A (wRw G a (rwDrop r w)) t9) A)) (cc := cX3_drop) (maxL := 3) (ret := none) (by decide) rfl (Nat.le_of_ble_eq_true rfl) ?_
  intro p e s m A below meth c H locs ls hx hb hr hts hown hlocks hin hml hK hA hw hl
  have hl : lv_has ls 3 [(0, .ref a.1), (1, .int (nI w))] := hl
  refine lv_aload_n hx hb dX3_drop_0 rfl (lv_at hl 0 rfl) ?_
  refine lv_aload_n hx hb dX3_drop_1 rfl (lv_at hl 0 rfl) ?_
  refine r_get (ci := 3) (v := .ref a.2.1) (C := RX3) (T := TX3) (N := 7) hx hb hts wiX3_drop_drop_X3 hown hK hw 0 rfl rfl 1 (by decide) wmX3_drop_drop_0 (fun _ h9 => h9) rfl dX3_drop_2 ?_
  refine lv_iload_n hx hb dX3_drop_5 rfl (lv_at hl 1 rfl) ?_
  have hwc : wW G A s.heap (([] : va_W) ++ ((wRw G a r) ++ ([] : va_W))) H locs := hw
  refine r_callv (u := ([] : va_W)) (w := wRw G a r) (v := ([] : va_W)) (va_runV (As := [.ref a.2.1, .int (nI w)]) (rest := []) ⟨hx, hb, hml, hown, hts⟩ (c_closeGap_kd l G a r w (by first | assumption | omega | decide) (by first | assumption | omega | decide) H.size) (cwV 2 hts gX3_drop_X3_closeGap rfl rfl rfl (by decide +kernel) ⟨Nat.le_of_ble_eq_true rfl, Nat.le_of_ble_eq_true rfl⟩) (r_preV (ci := 3) (q0 := 0) hK hwc rfl rfl rfl) rfl rfl hl.1 rfl (lv_room (Nat.le_of_ble_eq_true rfl)) dX3_drop_6 ⟨Nat.le_of_ble_eq_true rfl, Nat.le_of_ble_eq_true rfl⟩) hwc hA rfl rfl (fun H locs hw => ?_)
  have hw : wW G A s.heap (wRw G a (r.1, (gap r.2.1 w r.1), r.2.2.1, r.2.2.2.1, r.2.2.2.2.1, r.2.2.2.2.2.1, r.2.2.2.2.2.2)) H locs := hw
  refine lv_aload_n hx hb dX3_drop_9 rfl (lv_at hl 0 rfl) ?_
  refine lv_aload_n hx hb dX3_drop_10 rfl (lv_at hl 0 rfl) ?_
  refine r_get (ci := 3) (v := .ref a.2.2.1) (C := RX3) (T := TX3) (N := 7) hx hb hts wiX3_drop_drop_X3 hown hK hw 0 rfl rfl 2 (by decide) wmX3_drop_drop_1 (fun _ h9 => h9) rfl dX3_drop_11 ?_
  refine lv_iload_n hx hb dX3_drop_14 rfl (lv_at hl 1 rfl) ?_
  have hwc : wW G A s.heap (([] : va_W) ++ ((wRw G a (r.1, (gap r.2.1 w r.1), r.2.2.1, r.2.2.2.1, r.2.2.2.2.1, r.2.2.2.2.2.1, r.2.2.2.2.2.2)) ++ ([] : va_W))) H locs := hw
  refine r_callv (u := ([] : va_W)) (w := wRw G a (r.1, (gap r.2.1 w r.1), r.2.2.1, r.2.2.2.1, r.2.2.2.2.1, r.2.2.2.2.2.1, r.2.2.2.2.2.2)) (v := ([] : va_W)) (va_runV (As := [.ref a.2.2.1, .int (nI w)]) (rest := []) ⟨hx, hb, hml, hown, hts⟩ (c_closeGap_on l G a (r.1, (gap r.2.1 w r.1), r.2.2.1, r.2.2.2.1, r.2.2.2.2.1, r.2.2.2.2.2.1, r.2.2.2.2.2.2) w (by first | assumption | omega | decide) (by first | assumption | omega | decide) H.size) (cwV 2 hts gX3_drop_X3_closeGap rfl rfl rfl (by decide +kernel) ⟨Nat.le_of_ble_eq_true rfl, Nat.le_of_ble_eq_true rfl⟩) (r_preV (ci := 3) (q0 := 0) hK hwc rfl rfl rfl) rfl rfl hl.1 rfl (lv_room (Nat.le_of_ble_eq_true rfl)) dX3_drop_15 ⟨Nat.le_of_ble_eq_true rfl, Nat.le_of_ble_eq_true rfl⟩) hwc hA rfl rfl (fun H locs hw => ?_)
  have hw : wW G A s.heap (wRw G a (r.1, (gap r.2.1 w r.1), (gap (r.1, (gap r.2.1 w r.1), r.2.2.1, r.2.2.2.1, r.2.2.2.2.1, r.2.2.2.2.2.1, r.2.2.2.2.2.2).2.2.1 w (r.1, (gap r.2.1 w r.1), r.2.2.1, r.2.2.2.1, r.2.2.2.2.1, r.2.2.2.2.2.1, r.2.2.2.2.2.2).1), r.2.2.2.1, r.2.2.2.2.1, r.2.2.2.2.2.1, r.2.2.2.2.2.2)) H locs := hw
  refine lv_aload_n hx hb dX3_drop_18 rfl (lv_at hl 0 rfl) ?_
  refine lv_aload_n hx hb dX3_drop_19 rfl (lv_at hl 0 rfl) ?_
  refine r_get (ci := 3) (v := .ref a.2.2.2.1) (C := RX3) (T := TX3) (N := 7) hx hb hts wiX3_drop_drop_X3 hown hK hw 0 rfl rfl 3 (by decide) wmX3_drop_drop_2 (fun _ h9 => h9) rfl dX3_drop_20 ?_
  refine lv_iload_n hx hb dX3_drop_23 rfl (lv_at hl 1 rfl) ?_
  have hwc : wW G A s.heap (([] : va_W) ++ ((wRw G a (r.1, (gap r.2.1 w r.1), (gap (r.1, (gap r.2.1 w r.1), r.2.2.1, r.2.2.2.1, r.2.2.2.2.1, r.2.2.2.2.2.1, r.2.2.2.2.2.2).2.2.1 w (r.1, (gap r.2.1 w r.1), r.2.2.1, r.2.2.2.1, r.2.2.2.2.1, r.2.2.2.2.2.1, r.2.2.2.2.2.2).1), r.2.2.2.1, r.2.2.2.2.1, r.2.2.2.2.2.1, r.2.2.2.2.2.2)) ++ ([] : va_W))) H locs := hw
  refine r_callv (u := ([] : va_W)) (w := wRw G a (r.1, (gap r.2.1 w r.1), (gap (r.1, (gap r.2.1 w r.1), r.2.2.1, r.2.2.2.1, r.2.2.2.2.1, r.2.2.2.2.2.1, r.2.2.2.2.2.2).2.2.1 w (r.1, (gap r.2.1 w r.1), r.2.2.1, r.2.2.2.1, r.2.2.2.2.1, r.2.2.2.2.2.1, r.2.2.2.2.2.2).1), r.2.2.2.1, r.2.2.2.2.1, r.2.2.2.2.2.1, r.2.2.2.2.2.2)) (v := ([] : va_W)) (va_runV (As := [.ref a.2.2.2.1, .int (nI w)]) (rest := []) ⟨hx, hb, hml, hown, hts⟩ (c_closeGap_ot l G a (r.1, (gap r.2.1 w r.1), (gap (r.1, (gap r.2.1 w r.1), r.2.2.1, r.2.2.2.1, r.2.2.2.2.1, r.2.2.2.2.2.1, r.2.2.2.2.2.2).2.2.1 w (r.1, (gap r.2.1 w r.1), r.2.2.1, r.2.2.2.1, r.2.2.2.2.1, r.2.2.2.2.2.1, r.2.2.2.2.2.2).1), r.2.2.2.1, r.2.2.2.2.1, r.2.2.2.2.2.1, r.2.2.2.2.2.2) w (by first | assumption | omega | decide) (by first | assumption | omega | decide) H.size) (cwV 2 hts gX3_drop_X3_closeGap rfl rfl rfl (by decide +kernel) ⟨Nat.le_of_ble_eq_true rfl, Nat.le_of_ble_eq_true rfl⟩) (r_preV (ci := 3) (q0 := 0) hK hwc rfl rfl rfl) rfl rfl hl.1 rfl (lv_room (Nat.le_of_ble_eq_true rfl)) dX3_drop_24 ⟨Nat.le_of_ble_eq_true rfl, Nat.le_of_ble_eq_true rfl⟩) hwc hA rfl rfl (fun H locs hw => ?_)
  have hw : wW G A s.heap (wRw G a (r.1, (gap r.2.1 w r.1), (gap (r.1, (gap r.2.1 w r.1), r.2.2.1, r.2.2.2.1, r.2.2.2.2.1, r.2.2.2.2.2.1, r.2.2.2.2.2.2).2.2.1 w (r.1, (gap r.2.1 w r.1), r.2.2.1, r.2.2.2.1, r.2.2.2.2.1, r.2.2.2.2.2.1, r.2.2.2.2.2.2).1), (gap (r.1, (gap r.2.1 w r.1), (gap (r.1, (gap r.2.1 w r.1), r.2.2.1, r.2.2.2.1, r.2.2.2.2.1, r.2.2.2.2.2.1, r.2.2.2.2.2.2).2.2.1 w (r.1, (gap r.2.1 w r.1), r.2.2.1, r.2.2.2.1, r.2.2.2.2.1, r.2.2.2.2.2.1, r.2.2.2.2.2.2).1), r.2.2.2.1, r.2.2.2.2.1, r.2.2.2.2.2.1, r.2.2.2.2.2.2).2.2.2.1 w (r.1, (gap r.2.1 w r.1), (gap (r.1, (gap r.2.1 w r.1), r.2.2.1, r.2.2.2.1, r.2.2.2.2.1, r.2.2.2.2.2.1, r.2.2.2.2.2.2).2.2.1 w (r.1, (gap r.2.1 w r.1), r.2.2.1, r.2.2.2.1, r.2.2.2.2.1, r.2.2.2.2.2.1, r.2.2.2.2.2.2).1), r.2.2.2.1, r.2.2.2.2.1, r.2.2.2.2.2.1, r.2.2.2.2.2.2).1), r.2.2.2.2.1, r.2.2.2.2.2.1, r.2.2.2.2.2.2)) H locs := hw
  refine lv_aload_n hx hb dX3_drop_27 rfl (lv_at hl 0 rfl) ?_
  refine lv_aload_n hx hb dX3_drop_28 rfl (lv_at hl 0 rfl) ?_
  refine r_get (ci := 3) (v := .ref a.2.2.2.2.1) (C := RX3) (T := TX3) (N := 7) hx hb hts wiX3_drop_drop_X3 hown hK hw 0 rfl rfl 4 (by decide) wmX3_drop_drop_3 (fun _ h9 => h9) rfl dX3_drop_29 ?_
  refine lv_iload_n hx hb dX3_drop_32 rfl (lv_at hl 1 rfl) ?_
  have hwc : wW G A s.heap (([] : va_W) ++ ((wRw G a (r.1, (gap r.2.1 w r.1), (gap (r.1, (gap r.2.1 w r.1), r.2.2.1, r.2.2.2.1, r.2.2.2.2.1, r.2.2.2.2.2.1, r.2.2.2.2.2.2).2.2.1 w (r.1, (gap r.2.1 w r.1), r.2.2.1, r.2.2.2.1, r.2.2.2.2.1, r.2.2.2.2.2.1, r.2.2.2.2.2.2).1), (gap (r.1, (gap r.2.1 w r.1), (gap (r.1, (gap r.2.1 w r.1), r.2.2.1, r.2.2.2.1, r.2.2.2.2.1, r.2.2.2.2.2.1, r.2.2.2.2.2.2).2.2.1 w (r.1, (gap r.2.1 w r.1), r.2.2.1, r.2.2.2.1, r.2.2.2.2.1, r.2.2.2.2.2.1, r.2.2.2.2.2.2).1), r.2.2.2.1, r.2.2.2.2.1, r.2.2.2.2.2.1, r.2.2.2.2.2.2).2.2.2.1 w (r.1, (gap r.2.1 w r.1), (gap (r.1, (gap r.2.1 w r.1), r.2.2.1, r.2.2.2.1, r.2.2.2.2.1, r.2.2.2.2.2.1, r.2.2.2.2.2.2).2.2.1 w (r.1, (gap r.2.1 w r.1), r.2.2.1, r.2.2.2.1, r.2.2.2.2.1, r.2.2.2.2.2.1, r.2.2.2.2.2.2).1), r.2.2.2.1, r.2.2.2.2.1, r.2.2.2.2.2.1, r.2.2.2.2.2.2).1), r.2.2.2.2.1, r.2.2.2.2.2.1, r.2.2.2.2.2.2)) ++ ([] : va_W))) H locs := hw
  refine r_callv (u := ([] : va_W)) (w := wRw G a (r.1, (gap r.2.1 w r.1), (gap (r.1, (gap r.2.1 w r.1), r.2.2.1, r.2.2.2.1, r.2.2.2.2.1, r.2.2.2.2.2.1, r.2.2.2.2.2.2).2.2.1 w (r.1, (gap r.2.1 w r.1), r.2.2.1, r.2.2.2.1, r.2.2.2.2.1, r.2.2.2.2.2.1, r.2.2.2.2.2.2).1), (gap (r.1, (gap r.2.1 w r.1), (gap (r.1, (gap r.2.1 w r.1), r.2.2.1, r.2.2.2.1, r.2.2.2.2.1, r.2.2.2.2.2.1, r.2.2.2.2.2.2).2.2.1 w (r.1, (gap r.2.1 w r.1), r.2.2.1, r.2.2.2.1, r.2.2.2.2.1, r.2.2.2.2.2.1, r.2.2.2.2.2.2).1), r.2.2.2.1, r.2.2.2.2.1, r.2.2.2.2.2.1, r.2.2.2.2.2.2).2.2.2.1 w (r.1, (gap r.2.1 w r.1), (gap (r.1, (gap r.2.1 w r.1), r.2.2.1, r.2.2.2.1, r.2.2.2.2.1, r.2.2.2.2.2.1, r.2.2.2.2.2.2).2.2.1 w (r.1, (gap r.2.1 w r.1), r.2.2.1, r.2.2.2.1, r.2.2.2.2.1, r.2.2.2.2.2.1, r.2.2.2.2.2.2).1), r.2.2.2.1, r.2.2.2.2.1, r.2.2.2.2.2.1, r.2.2.2.2.2.2).1), r.2.2.2.2.1, r.2.2.2.2.2.1, r.2.2.2.2.2.2)) (v := ([] : va_W)) (va_runV (As := [.ref a.2.2.2.2.1, .int (nI w)]) (rest := []) ⟨hx, hb, hml, hown, hts⟩ (c_closeGap_sz l G a (r.1, (gap r.2.1 w r.1), (gap (r.1, (gap r.2.1 w r.1), r.2.2.1, r.2.2.2.1, r.2.2.2.2.1, r.2.2.2.2.2.1, r.2.2.2.2.2.2).2.2.1 w (r.1, (gap r.2.1 w r.1), r.2.2.1, r.2.2.2.1, r.2.2.2.2.1, r.2.2.2.2.2.1, r.2.2.2.2.2.2).1), (gap (r.1, (gap r.2.1 w r.1), (gap (r.1, (gap r.2.1 w r.1), r.2.2.1, r.2.2.2.1, r.2.2.2.2.1, r.2.2.2.2.2.1, r.2.2.2.2.2.2).2.2.1 w (r.1, (gap r.2.1 w r.1), r.2.2.1, r.2.2.2.1, r.2.2.2.2.1, r.2.2.2.2.2.1, r.2.2.2.2.2.2).1), r.2.2.2.1, r.2.2.2.2.1, r.2.2.2.2.2.1, r.2.2.2.2.2.2).2.2.2.1 w (r.1, (gap r.2.1 w r.1), (gap (r.1, (gap r.2.1 w r.1), r.2.2.1, r.2.2.2.1, r.2.2.2.2.1, r.2.2.2.2.2.1, r.2.2.2.2.2.2).2.2.1 w (r.1, (gap r.2.1 w r.1), r.2.2.1, r.2.2.2.1, r.2.2.2.2.1, r.2.2.2.2.2.1, r.2.2.2.2.2.2).1), r.2.2.2.1, r.2.2.2.2.1, r.2.2.2.2.2.1, r.2.2.2.2.2.2).1), r.2.2.2.2.1, r.2.2.2.2.2.1, r.2.2.2.2.2.2) w (by first | assumption | omega | decide) (by first | assumption | omega | decide) H.size) (cwV 2 hts gX3_drop_X3_closeGap rfl rfl rfl (by decide +kernel) ⟨Nat.le_of_ble_eq_true rfl, Nat.le_of_ble_eq_true rfl⟩) (r_preV (ci := 3) (q0 := 0) hK hwc rfl rfl rfl) rfl rfl hl.1 rfl (lv_room (Nat.le_of_ble_eq_true rfl)) dX3_drop_33 ⟨Nat.le_of_ble_eq_true rfl, Nat.le_of_ble_eq_true rfl⟩) hwc hA rfl rfl (fun H locs hw => ?_)
  have hw : wW G A s.heap (wRw G a (r.1, (gap r.2.1 w r.1), (gap (r.1, (gap r.2.1 w r.1), r.2.2.1, r.2.2.2.1, r.2.2.2.2.1, r.2.2.2.2.2.1, r.2.2.2.2.2.2).2.2.1 w (r.1, (gap r.2.1 w r.1), r.2.2.1, r.2.2.2.1, r.2.2.2.2.1, r.2.2.2.2.2.1, r.2.2.2.2.2.2).1), (gap (r.1, (gap r.2.1 w r.1), (gap (r.1, (gap r.2.1 w r.1), r.2.2.1, r.2.2.2.1, r.2.2.2.2.1, r.2.2.2.2.2.1, r.2.2.2.2.2.2).2.2.1 w (r.1, (gap r.2.1 w r.1), r.2.2.1, r.2.2.2.1, r.2.2.2.2.1, r.2.2.2.2.2.1, r.2.2.2.2.2.2).1), r.2.2.2.1, r.2.2.2.2.1, r.2.2.2.2.2.1, r.2.2.2.2.2.2).2.2.2.1 w (r.1, (gap r.2.1 w r.1), (gap (r.1, (gap r.2.1 w r.1), r.2.2.1, r.2.2.2.1, r.2.2.2.2.1, r.2.2.2.2.2.1, r.2.2.2.2.2.2).2.2.1 w (r.1, (gap r.2.1 w r.1), r.2.2.1, r.2.2.2.1, r.2.2.2.2.1, r.2.2.2.2.2.1, r.2.2.2.2.2.2).1), r.2.2.2.1, r.2.2.2.2.1, r.2.2.2.2.2.1, r.2.2.2.2.2.2).1), (gap (r.1, (gap r.2.1 w r.1), (gap (r.1, (gap r.2.1 w r.1), r.2.2.1, r.2.2.2.1, r.2.2.2.2.1, r.2.2.2.2.2.1, r.2.2.2.2.2.2).2.2.1 w (r.1, (gap r.2.1 w r.1), r.2.2.1, r.2.2.2.1, r.2.2.2.2.1, r.2.2.2.2.2.1, r.2.2.2.2.2.2).1), (gap (r.1, (gap r.2.1 w r.1), (gap (r.1, (gap r.2.1 w r.1), r.2.2.1, r.2.2.2.1, r.2.2.2.2.1, r.2.2.2.2.2.1, r.2.2.2.2.2.2).2.2.1 w (r.1, (gap r.2.1 w r.1), r.2.2.1, r.2.2.2.1, r.2.2.2.2.1, r.2.2.2.2.2.1, r.2.2.2.2.2.2).1), r.2.2.2.1, r.2.2.2.2.1, r.2.2.2.2.2.1, r.2.2.2.2.2.2).2.2.2.1 w (r.1, (gap r.2.1 w r.1), (gap (r.1, (gap r.2.1 w r.1), r.2.2.1, r.2.2.2.1, r.2.2.2.2.1, r.2.2.2.2.2.1, r.2.2.2.2.2.2).2.2.1 w (r.1, (gap r.2.1 w r.1), r.2.2.1, r.2.2.2.1, r.2.2.2.2.1, r.2.2.2.2.2.1, r.2.2.2.2.2.2).1), r.2.2.2.1, r.2.2.2.2.1, r.2.2.2.2.2.1, r.2.2.2.2.2.2).1), r.2.2.2.2.1, r.2.2.2.2.2.1, r.2.2.2.2.2.2).2.2.2.2.1 w (r.1, (gap r.2.1 w r.1), (gap (r.1, (gap r.2.1 w r.1), r.2.2.1, r.2.2.2.1, r.2.2.2.2.1, r.2.2.2.2.2.1, r.2.2.2.2.2.2).2.2.1 w (r.1, (gap r.2.1 w r.1), r.2.2.1, r.2.2.2.1, r.2.2.2.2.1, r.2.2.2.2.2.1, r.2.2.2.2.2.2).1), (gap (r.1, (gap r.2.1 w r.1), (gap (r.1, (gap r.2.1 w r.1), r.2.2.1, r.2.2.2.1, r.2.2.2.2.1, r.2.2.2.2.2.1, r.2.2.2.2.2.2).2.2.1 w (r.1, (gap r.2.1 w r.1), r.2.2.1, r.2.2.2.1, r.2.2.2.2.1, r.2.2.2.2.2.1, r.2.2.2.2.2.2).1), r.2.2.2.1, r.2.2.2.2.1, r.2.2.2.2.2.1, r.2.2.2.2.2.2).2.2.2.1 w (r.1, (gap r.2.1 w r.1), (gap (r.1, (gap r.2.1 w r.1), r.2.2.1, r.2.2.2.1, r.2.2.2.2.1, r.2.2.2.2.2.1, r.2.2.2.2.2.2).2.2.1 w (r.1, (gap r.2.1 w r.1), r.2.2.1, r.2.2.2.1, r.2.2.2.2.1, r.2.2.2.2.2.1, r.2.2.2.2.2.2).1), r.2.2.2.1, r.2.2.2.2.1, r.2.2.2.2.2.1, r.2.2.2.2.2.2).1), r.2.2.2.2.1, r.2.2.2.2.2.1, r.2.2.2.2.2.2).1), r.2.2.2.2.2.1, r.2.2.2.2.2.2)) H locs := hw
  refine lv_iconst (v := 0) hx hb dX3_drop_36 (by decide) ?_
  refine lv_istore_n (lv' := [(2, .int 0), (0, .ref a.1), (1, .int (nI w))]) hx hb dX3_drop_37 rfl hl (by decide) rfl (fun ls hl => ?_)
  have loop_38 : ∀ (nf : Nat) (k : Nat) (hnf : (4 - k) < nf) (hk : k ≤ 4), ∀ (H : Heap) (locs : List Loc) (ls : Array Slot), wW G A s.heap (wRw G a (rwDropK r w k)) H locs → lv_has ls 3 [(0, .ref a.1), (1, .int (nI w)), (2, .int (nI k))] → W p l e ({ frames := 2, cells := 0, slots := 0, locals := 82 }) s m [.ref a.1, .int (nI w)].toArray below meth c H locs 0 0 (MQ below (va_Qv (fun (_ : Unit) => True) (fun _ t9 => wPost G A (wRw G a (rwDrop r w)) t9) A) [.ref a.1, .int (nI w)].toArray s 0 0 A) (F0 m 38 ls []) := by
    intro nf
    induction nf with
    | zero => intro k hnf hk; exact absurd hnf (Nat.not_lt_zero _)
    | succ nf ih_38 =>
      intro k hnf hk H locs ls hw hl
      refine lv_iload_n hx hb dX3_drop_38 rfl (lv_at hl 2 rfl) ?_
      refine lv_iconst (v := 4) hx hb dX3_drop_39 (by decide) ?_
      refine lv_icmp_ge (tgt := 60) hx hb dX3_drop_40 (by decide) (fun c_40 => ?_) (fun c_40 => ?_)
      · have hx_40 : 4 ≤ k := ct_ge (k := k) (n := 4) (by omega) (by omega) c_40
        refine lv_aload_n hx hb dX3_drop_60 rfl (lv_at hl 0 rfl) ?_
        refine lv_dup hx hb dX3_drop_61 rfl ?_
        refine r_get (ci := 3) (v := .int (nI ((rwDropK r w k).1))) (C := RX3) (T := TX3) (N := 7) hx hb hts wiX3_drop_drop_X3 hown hK hw 0 rfl rfl 0 (by decide) wmX3_drop_drop_4 (fun _ h9 => h9) rfl dX3_drop_62 ?_
        refine lv_iconst (v := 1) hx hb dX3_drop_65 (by decide) ?_
        refine lv_isub hx hb dX3_drop_66 ?_
        refine r_top (y := nI ((rwDropK r w k).1 - 1)) (pk_sub (a := (rwDropK r w k).1) (b := 1) (by rw [rwDropK_cnt]; omega)) ?_
        refine r_put (ci := 3) (v := .int (nI ((rwDropK r w k).1 - 1))) (ty := .int) (C := RX3) (T := TX3) (N := 7) hx hb hts wiX3_drop_drop_X3 tyX3 tyX3_ok nmX3 hown hK hw 0 rfl rfl 0 (by decide) wmX3_drop_drop_4 (fun _ h9 => h9) rfl (by decide +kernel) rfl rfl (Nat.le_of_ble_eq_true rfl) dX3_drop_67 (ws' := wRw G a ((rwDropK r w k).1 - 1, (rwDropK r w k).2.1, (rwDropK r w k).2.2.1, (rwDropK r w k).2.2.2.1, (rwDropK r w k).2.2.2.2.1, (rwDropK r w k).2.2.2.2.2.1, (rwDropK r w k).2.2.2.2.2.2)) rfl (fun H locs hw => ?_)
        exact m_vret hx hb hr hlocks hK hw (Nat.le_of_ble_eq_true rfl) (Nat.le_of_ble_eq_true rfl) dX3_drop_70 (show wRw G a ((rwDropK r w k).1 - 1, (rwDropK r w k).2.1, (rwDropK r w k).2.2.1, (rwDropK r w k).2.2.2.1, (rwDropK r w k).2.2.2.2.1, (rwDropK r w k).2.2.2.2.2.1, (rwDropK r w k).2.2.2.2.2.2) = wRw G a (rwDrop r w) by rw [show k = 4 by omega]; rfl)
      · have hc_40 : k < 4 := ct_nge (k := k) (n := 4) (by omega) (by omega) c_40
        refine lv_aload_n hx hb dX3_drop_43 rfl (lv_at hl 0 rfl) ?_
        refine lv_aload_n hx hb dX3_drop_44 rfl (lv_at hl 0 rfl) ?_
        refine r_get (ci := 3) (v := .ref a.2.2.2.2.2.2.1) (C := RX3) (T := TX3) (N := 7) hx hb hts wiX3_drop_drop_X3 hown hK hw 0 rfl rfl 6 (by decide) wmX3_drop_drop_5 (fun _ h9 => h9) rfl dX3_drop_45 ?_
        refine lv_iload_n hx hb dX3_drop_48 rfl (lv_at hl 2 rfl) ?_
        refine r_aldM (v := a.2.2.2.2.2.2.2 k) hx hb hK hw 6 rfl k rfl (by omega) (by decide) rfl dX3_drop_49 ?_
        refine lv_iload_n hx hb dX3_drop_50 rfl (lv_at hl 1 rfl) ?_
        have hwc : wW G A s.heap (([] : va_W) ++ ((wRw G a (rwDropK r w k)) ++ ([] : va_W))) H locs := hw
        refine r_callv (u := ([] : va_W)) (w := wRw G a (rwDropK r w k)) (v := ([] : va_W)) (va_runV (As := [.ref (a.2.2.2.2.2.2.2 k), .int (nI w)]) (rest := []) ⟨hx, hb, hml, hown, hts⟩ (c_closeGap_td l G a (rwDropK r w k) w k (by rw [rwDropK_cnt]; exact hwn) (by rw [rwDropK_cnt]; exact hc) (by first | assumption | omega | decide) H.size) (cwV 2 hts gX3_drop_X3_closeGap rfl rfl rfl (by decide +kernel) ⟨Nat.le_of_ble_eq_true rfl, Nat.le_of_ble_eq_true rfl⟩) (r_preV (ci := 3) (q0 := 0) hK hwc rfl rfl rfl) rfl rfl hl.1 rfl (lv_room (Nat.le_of_ble_eq_true rfl)) dX3_drop_51 ⟨Nat.le_of_ble_eq_true rfl, Nat.le_of_ble_eq_true rfl⟩) hwc hA rfl rfl (fun H locs hw => ?_)
        have hw : wW G A s.heap (wRw G a ((rwDropK r w k).1, (rwDropK r w k).2.1, (rwDropK r w k).2.2.1, (rwDropK r w k).2.2.2.1, (rwDropK r w k).2.2.2.2.1, (rwDropK r w k).2.2.2.2.2.1, (updF (rwDropK r w k).2.2.2.2.2.2 k (gap ((rwDropK r w k).2.2.2.2.2.2 k) w (rwDropK r w k).1)))) H locs := hw
        refine lv_iinc (v := nI (k + 1)) (lv' := [(2, .int (nI (k + 1))), (0, .ref a.1), (1, .int (nI w))]) hx hb dX3_drop_54 hl (k := 2) rfl (nI_add k 1) (by decide) rfl (fun ls hl => ?_)
        refine lv_goto (tgt := 38) hx hb dX3_drop_57 (by decide) ?_
        exact ih_38 (k + 1) (by omega) (by first | assumption | omega | rfl) _ _ _ (wW.eq (show wRw G a ((rwDropK r w k).1, (rwDropK r w k).2.1, (rwDropK r w k).2.2.1, (rwDropK r w k).2.2.2.1, (rwDropK r w k).2.2.2.2.1, (rwDropK r w k).2.2.2.2.2.1, (updF (rwDropK r w k).2.2.2.2.2.2 k (gap ((rwDropK r w k).2.2.2.2.2.2 k) w (rwDropK r w k).1))) = wRw G a (rwDropK r w (k + 1)) from rfl) hw) (lv_sub hl [1, 2, 0] rfl)
  exact loop_38 ((4 - 0) + 1) 0 (Nat.lt_succ_self _) (by first | assumption | omega | rfl) _ _ _ (wW.eq (show wRw G a (r.1, (gap r.2.1 w r.1), (gap (r.1, (gap r.2.1 w r.1), r.2.2.1, r.2.2.2.1, r.2.2.2.2.1, r.2.2.2.2.2.1, r.2.2.2.2.2.2).2.2.1 w (r.1, (gap r.2.1 w r.1), r.2.2.1, r.2.2.2.1, r.2.2.2.2.1, r.2.2.2.2.2.1, r.2.2.2.2.2.2).1), (gap (r.1, (gap r.2.1 w r.1), (gap (r.1, (gap r.2.1 w r.1), r.2.2.1, r.2.2.2.1, r.2.2.2.2.1, r.2.2.2.2.2.1, r.2.2.2.2.2.2).2.2.1 w (r.1, (gap r.2.1 w r.1), r.2.2.1, r.2.2.2.1, r.2.2.2.2.1, r.2.2.2.2.2.1, r.2.2.2.2.2.2).1), r.2.2.2.1, r.2.2.2.2.1, r.2.2.2.2.2.1, r.2.2.2.2.2.2).2.2.2.1 w (r.1, (gap r.2.1 w r.1), (gap (r.1, (gap r.2.1 w r.1), r.2.2.1, r.2.2.2.1, r.2.2.2.2.1, r.2.2.2.2.2.1, r.2.2.2.2.2.2).2.2.1 w (r.1, (gap r.2.1 w r.1), r.2.2.1, r.2.2.2.1, r.2.2.2.2.1, r.2.2.2.2.2.1, r.2.2.2.2.2.2).1), r.2.2.2.1, r.2.2.2.2.1, r.2.2.2.2.2.1, r.2.2.2.2.2.2).1), (gap (r.1, (gap r.2.1 w r.1), (gap (r.1, (gap r.2.1 w r.1), r.2.2.1, r.2.2.2.1, r.2.2.2.2.1, r.2.2.2.2.2.1, r.2.2.2.2.2.2).2.2.1 w (r.1, (gap r.2.1 w r.1), r.2.2.1, r.2.2.2.1, r.2.2.2.2.1, r.2.2.2.2.2.1, r.2.2.2.2.2.2).1), (gap (r.1, (gap r.2.1 w r.1), (gap (r.1, (gap r.2.1 w r.1), r.2.2.1, r.2.2.2.1, r.2.2.2.2.1, r.2.2.2.2.2.1, r.2.2.2.2.2.2).2.2.1 w (r.1, (gap r.2.1 w r.1), r.2.2.1, r.2.2.2.1, r.2.2.2.2.1, r.2.2.2.2.2.1, r.2.2.2.2.2.2).1), r.2.2.2.1, r.2.2.2.2.1, r.2.2.2.2.2.1, r.2.2.2.2.2.2).2.2.2.1 w (r.1, (gap r.2.1 w r.1), (gap (r.1, (gap r.2.1 w r.1), r.2.2.1, r.2.2.2.1, r.2.2.2.2.1, r.2.2.2.2.2.1, r.2.2.2.2.2.2).2.2.1 w (r.1, (gap r.2.1 w r.1), r.2.2.1, r.2.2.2.1, r.2.2.2.2.1, r.2.2.2.2.2.1, r.2.2.2.2.2.2).1), r.2.2.2.1, r.2.2.2.2.1, r.2.2.2.2.2.1, r.2.2.2.2.2.2).1), r.2.2.2.2.1, r.2.2.2.2.2.1, r.2.2.2.2.2.2).2.2.2.2.1 w (r.1, (gap r.2.1 w r.1), (gap (r.1, (gap r.2.1 w r.1), r.2.2.1, r.2.2.2.1, r.2.2.2.2.1, r.2.2.2.2.2.1, r.2.2.2.2.2.2).2.2.1 w (r.1, (gap r.2.1 w r.1), r.2.2.1, r.2.2.2.1, r.2.2.2.2.1, r.2.2.2.2.2.1, r.2.2.2.2.2.2).1), (gap (r.1, (gap r.2.1 w r.1), (gap (r.1, (gap r.2.1 w r.1), r.2.2.1, r.2.2.2.1, r.2.2.2.2.1, r.2.2.2.2.2.1, r.2.2.2.2.2.2).2.2.1 w (r.1, (gap r.2.1 w r.1), r.2.2.1, r.2.2.2.1, r.2.2.2.2.1, r.2.2.2.2.2.1, r.2.2.2.2.2.2).1), r.2.2.2.1, r.2.2.2.2.1, r.2.2.2.2.2.1, r.2.2.2.2.2.2).2.2.2.1 w (r.1, (gap r.2.1 w r.1), (gap (r.1, (gap r.2.1 w r.1), r.2.2.1, r.2.2.2.1, r.2.2.2.2.1, r.2.2.2.2.2.1, r.2.2.2.2.2.2).2.2.1 w (r.1, (gap r.2.1 w r.1), r.2.2.1, r.2.2.2.1, r.2.2.2.2.1, r.2.2.2.2.2.1, r.2.2.2.2.2.2).1), r.2.2.2.1, r.2.2.2.2.1, r.2.2.2.2.2.1, r.2.2.2.2.2.2).1), r.2.2.2.2.1, r.2.2.2.2.2.1, r.2.2.2.2.2.2).1), r.2.2.2.2.2.1, r.2.2.2.2.2.2) = wRw G a (rwDropK r w 0) from rfl) hw) (lv_sub hl [1, 2, 0] rfl)

theorem wiX3_append_append_X3 : ∀ w ∈ wsX30, w ∈ wsX3_append := by decide +kernel
theorem wmX3_append_append_0 : Cond.fieldLink RX3 32 "PartSketch$WishRows" "count" "I" ∈ wsX3_append := by decide +kernel
theorem wmX3_append_append_1 : Cond.fieldLink RX3 9 "PartSketch$WishRows" "kind" "[I" ∈ wsX3_append := by decide +kernel
theorem wmX3_append_append_2 : Cond.fieldLink RX3 15 "PartSketch$WishRows" "one" "[I" ∈ wsX3_append := by decide +kernel
theorem wmX3_append_append_3 : Cond.fieldLink RX3 18 "PartSketch$WishRows" "other" "[I" ∈ wsX3_append := by decide +kernel
theorem wmX3_append_append_4 : Cond.fieldLink RX3 21 "PartSketch$WishRows" "size" "[I" ∈ wsX3_append := by decide +kernel
theorem wmX3_append_append_5 : Cond.fieldLink RX3 29 "PartSketch$WishRows" "told" "[[I" ∈ wsX3_append := by decide +kernel
set_option maxHeartbeats 4000000 in
set_option maxRecDepth 100000 in
/-- WishRows.append -/
theorem c_append (l : Launch) (G : gT) (a : aRw) (r : tRw) (kd : Int32) (i : Nat) (j : Nat) (d : Int32) (hc : r.1 < 40) (sz : Nat) : MI l yX3_append wsX3_append ({ frames := 0, cells := 0, slots := 0, locals := 0 }) G [.ref a.1, .int kd, .int (nI i), .int (nI j), .int d] (wRw G a r) (wRw G a (rwApp r kd i j d)) sz (nI r.1) 0 0 := by
  refine m_of (Qc := fun A => (va_Qi (fun (r9 : Int32) (_ : Unit) => r9 = (nI r.1)) (fun _ t9 => wPost G A (wRw G a (rwApp r kd i j d)) t9) A)) (cc := cX3_append) (maxL := 7) (ret := (some .int)) (by decide) rfl (Nat.le_of_ble_eq_true rfl) ?_
  intro p e s m A below meth c H locs ls hx hb hr hts hown hlocks hin hml hK hA hw hl
  have hl : lv_has ls 7 [(0, .ref a.1), (1, .int kd), (2, .int (nI i)), (3, .int (nI j)), (4, .int d)] := hl
  refine lv_aload_n hx hb dX3_append_0 rfl (lv_at hl 0 rfl) ?_
  refine r_get (ci := 3) (v := .int (nI r.1)) (C := RX3) (T := TX3) (N := 7) hx hb hts wiX3_append_append_X3 hown hK hw 0 rfl rfl 0 (by decide) wmX3_append_append_0 (fun _ h9 => h9) rfl dX3_append_1 ?_
  refine lv_istore (lv' := [(5, .int (nI r.1)), (0, .ref a.1), (1, .int kd), (2, .int (nI i)), (3, .int (nI j)), (4, .int d)]) hx hb dX3_append_4 hl (by decide) rfl (fun ls hl => ?_)
  refine lv_aload_n hx hb dX3_append_6 rfl (lv_at hl 1 rfl) ?_
  refine r_get (ci := 3) (v := .ref a.2.1) (C := RX3) (T := TX3) (N := 7) hx hb hts wiX3_append_append_X3 hown hK hw 0 rfl rfl 1 (by decide) wmX3_append_append_1 (fun _ h9 => h9) rfl dX3_append_7 ?_
  refine lv_iload hx hb dX3_append_10 (lv_at hl 0 rfl) ?_
  refine lv_iload_n hx hb dX3_append_12 rfl (lv_at hl 2 rfl) ?_
  refine r_iast hx hb hK hw 1 rfl r.1 rfl (by omega) (by decide) dX3_append_13 (ws' := wRw G a (r.1, (upd r.2.1 r.1 kd), r.2.2.1, r.2.2.2.1, r.2.2.2.2.1, r.2.2.2.2.2.1, r.2.2.2.2.2.2)) rfl (fun H locs hw => ?_)
  refine lv_aload_n hx hb dX3_append_14 rfl (lv_at hl 1 rfl) ?_
  refine r_get (ci := 3) (v := .ref a.2.2.1) (C := RX3) (T := TX3) (N := 7) hx hb hts wiX3_append_append_X3 hown hK hw 0 rfl rfl 2 (by decide) wmX3_append_append_2 (fun _ h9 => h9) rfl dX3_append_15 ?_
  refine lv_iload hx hb dX3_append_18 (lv_at hl 0 rfl) ?_
  refine lv_iload_n hx hb dX3_append_20 rfl (lv_at hl 3 rfl) ?_
  refine r_iast hx hb hK hw 2 rfl r.1 rfl (by omega) (by decide) dX3_append_21 (ws' := wRw G a (r.1, (upd r.2.1 r.1 kd), (updN r.2.2.1 r.1 i), r.2.2.2.1, r.2.2.2.2.1, r.2.2.2.2.2.1, r.2.2.2.2.2.2)) (by rw [upd_nI]; rfl) (fun H locs hw => ?_)
  refine lv_aload_n hx hb dX3_append_22 rfl (lv_at hl 1 rfl) ?_
  refine r_get (ci := 3) (v := .ref a.2.2.2.1) (C := RX3) (T := TX3) (N := 7) hx hb hts wiX3_append_append_X3 hown hK hw 0 rfl rfl 3 (by decide) wmX3_append_append_3 (fun _ h9 => h9) rfl dX3_append_23 ?_
  refine lv_iload hx hb dX3_append_26 (lv_at hl 0 rfl) ?_
  refine lv_iload_n hx hb dX3_append_28 rfl (lv_at hl 4 rfl) ?_
  refine r_iast hx hb hK hw 3 rfl r.1 rfl (by omega) (by decide) dX3_append_29 (ws' := wRw G a (r.1, (upd r.2.1 r.1 kd), (updN r.2.2.1 r.1 i), (updN r.2.2.2.1 r.1 j), r.2.2.2.2.1, r.2.2.2.2.2.1, r.2.2.2.2.2.2)) (by rw [upd_nI]; rfl) (fun H locs hw => ?_)
  refine lv_aload_n hx hb dX3_append_30 rfl (lv_at hl 1 rfl) ?_
  refine r_get (ci := 3) (v := .ref a.2.2.2.2.1) (C := RX3) (T := TX3) (N := 7) hx hb hts wiX3_append_append_X3 hown hK hw 0 rfl rfl 4 (by decide) wmX3_append_append_4 (fun _ h9 => h9) rfl dX3_append_31 ?_
  refine lv_iload hx hb dX3_append_34 (lv_at hl 0 rfl) ?_
  refine lv_iload hx hb dX3_append_36 (lv_at hl 5 rfl) ?_
  refine r_iast hx hb hK hw 4 rfl r.1 rfl (by omega) (by decide) dX3_append_38 (ws' := wRw G a (r.1, (upd r.2.1 r.1 kd), (updN r.2.2.1 r.1 i), (updN r.2.2.2.1 r.1 j), (upd r.2.2.2.2.1 r.1 d), r.2.2.2.2.2.1, r.2.2.2.2.2.2)) rfl (fun H locs hw => ?_)
  refine lv_iconst (v := 0) hx hb dX3_append_39 (by decide) ?_
  refine lv_istore (lv' := [(6, .int 0), (5, .int (nI r.1)), (0, .ref a.1), (1, .int kd), (2, .int (nI i)), (3, .int (nI j)), (4, .int d)]) hx hb dX3_append_40 hl (by decide) rfl (fun ls hl => ?_)
  have loop_42 : ∀ (nf : Nat) (k : Nat) (hnf : (4 - k) < nf) (hk : k ≤ 4), ∀ (H : Heap) (locs : List Loc) (ls : Array Slot), wW G A s.heap (wRw G a (rwAppK r kd i j d k)) H locs → lv_has ls 7 [(0, .ref a.1), (1, .int kd), (2, .int (nI i)), (3, .int (nI j)), (4, .int d), (5, .int (nI r.1)), (6, .int (nI k))] → W p l e ({ frames := 0, cells := 0, slots := 0, locals := 0 }) s m [.ref a.1, .int kd, .int (nI i), .int (nI j), .int d].toArray below meth c H locs 0 0 (MQ below (va_Qi (fun (r9 : Int32) (_ : Unit) => r9 = (nI r.1)) (fun _ t9 => wPost G A (wRw G a (rwApp r kd i j d)) t9) A) [.ref a.1, .int kd, .int (nI i), .int (nI j), .int d].toArray s 0 0 A) (F0 m 42 ls []) := by
    intro nf
    induction nf with
    | zero => intro k hnf hk; exact absurd hnf (Nat.not_lt_zero _)
    | succ nf ih_42 =>
      intro k hnf hk H locs ls hw hl
      refine lv_iload hx hb dX3_append_42 (lv_at hl 6 rfl) ?_
      refine lv_iconst (v := 4) hx hb dX3_append_44 (by decide) ?_
      refine lv_icmp_ge (tgt := 66) hx hb dX3_append_45 (by decide) (fun c_45 => ?_) (fun c_45 => ?_)
      · have hx_45 : 4 ≤ k := ct_ge (k := k) (n := 4) (by omega) (by omega) c_45
        refine lv_aload_n hx hb dX3_append_66 rfl (lv_at hl 0 rfl) ?_
        refine lv_dup hx hb dX3_append_67 rfl ?_
        refine r_get (ci := 3) (v := .int (nI ((rwAppK r kd i j d k).1))) (C := RX3) (T := TX3) (N := 7) hx hb hts wiX3_append_append_X3 hown hK hw 0 rfl rfl 0 (by decide) wmX3_append_append_0 (fun _ h9 => h9) rfl dX3_append_68 ?_
        refine lv_iconst (v := 1) hx hb dX3_append_71 (by decide) ?_
        refine lv_iadd hx hb dX3_append_72 ?_
        refine r_top (y := nI (((rwAppK r kd i j d k).1) + 1)) (nI_add ((rwAppK r kd i j d k).1) 1) ?_
        refine r_put (ci := 3) (v := .int (nI (((rwAppK r kd i j d k).1) + 1))) (ty := .int) (C := RX3) (T := TX3) (N := 7) hx hb hts wiX3_append_append_X3 tyX3 tyX3_ok nmX3 hown hK hw 0 rfl rfl 0 (by decide) wmX3_append_append_0 (fun _ h9 => h9) rfl (by decide +kernel) rfl rfl (Nat.le_of_ble_eq_true rfl) dX3_append_73 (ws' := wRw G a (((rwAppK r kd i j d k).1) + 1, (rwAppK r kd i j d k).2.1, (rwAppK r kd i j d k).2.2.1, (rwAppK r kd i j d k).2.2.2.1, (rwAppK r kd i j d k).2.2.2.2.1, (rwAppK r kd i j d k).2.2.2.2.2.1, (rwAppK r kd i j d k).2.2.2.2.2.2)) rfl (fun H locs hw => ?_)
        refine lv_iload hx hb dX3_append_76 (lv_at hl 5 rfl) ?_
        exact m_iret hx hb hr hlocks hK hw (Nat.le_of_ble_eq_true rfl) (Nat.le_of_ble_eq_true rfl) dX3_append_78 (show (nI r.1 : Int32) = nI r.1 by rfl) (show wRw G a (((rwAppK r kd i j d k).1) + 1, (rwAppK r kd i j d k).2.1, (rwAppK r kd i j d k).2.2.1, (rwAppK r kd i j d k).2.2.2.1, (rwAppK r kd i j d k).2.2.2.2.1, (rwAppK r kd i j d k).2.2.2.2.2.1, (rwAppK r kd i j d k).2.2.2.2.2.2) = wRw G a (rwApp r kd i j d) by rw [show k = 4 by omega]; rfl)
      · have hc_45 : k < 4 := ct_nge (k := k) (n := 4) (by omega) (by omega) c_45
        refine lv_aload_n hx hb dX3_append_48 rfl (lv_at hl 0 rfl) ?_
        refine r_get (ci := 3) (v := .ref a.2.2.2.2.2.2.1) (C := RX3) (T := TX3) (N := 7) hx hb hts wiX3_append_append_X3 hown hK hw 0 rfl rfl 6 (by decide) wmX3_append_append_5 (fun _ h9 => h9) rfl dX3_append_49 ?_
        refine lv_iload hx hb dX3_append_52 (lv_at hl 6 rfl) ?_
        refine r_aldM (v := a.2.2.2.2.2.2.2 k) hx hb hK hw 6 rfl k rfl (by omega) (by decide) rfl dX3_append_54 ?_
        refine lv_iload hx hb dX3_append_55 (lv_at hl 5 rfl) ?_
        refine lv_bipush (v := 101) hx hb dX3_append_57 (by decide) ?_
        refine r_iast hx hb hK hw (7 + k) (rw_at (by omega)) r.1 rfl (by omega) (by decide) dX3_append_59 (ws' := wRw G a ((rwAppK r kd i j d k).1, (rwAppK r kd i j d k).2.1, (rwAppK r kd i j d k).2.2.1, (rwAppK r kd i j d k).2.2.2.1, (rwAppK r kd i j d k).2.2.2.2.1, (rwAppK r kd i j d k).2.2.2.2.2.1, (updF ((rwAppK r kd i j d k).2.2.2.2.2.2) k (upd (((rwAppK r kd i j d k).2.2.2.2.2.2) k) r.1 101)))) (rw_set (G := G) (a := a) (r := (rwAppK r kd i j d k)) (f := (upd (((rwAppK r kd i j d k).2.2.2.2.2.2) k) r.1 101)) (v := k) (by omega)) (fun H locs hw => ?_)
        refine lv_iinc (v := nI (k + 1)) (lv' := [(6, .int (nI (k + 1))), (0, .ref a.1), (1, .int kd), (2, .int (nI i)), (3, .int (nI j)), (4, .int d), (5, .int (nI r.1))]) hx hb dX3_append_60 hl (k := 6) rfl (nI_add k 1) (by decide) rfl (fun ls hl => ?_)
        refine lv_goto (tgt := 42) hx hb dX3_append_63 (by decide) ?_
        exact ih_42 (k + 1) (by omega) (by first | assumption | omega | rfl) _ _ _ (wW.eq (show wRw G a ((rwAppK r kd i j d k).1, (rwAppK r kd i j d k).2.1, (rwAppK r kd i j d k).2.2.1, (rwAppK r kd i j d k).2.2.2.1, (rwAppK r kd i j d k).2.2.2.2.1, (rwAppK r kd i j d k).2.2.2.2.2.1, (updF ((rwAppK r kd i j d k).2.2.2.2.2.2) k (upd (((rwAppK r kd i j d k).2.2.2.2.2.2) k) r.1 101))) = wRw G a (rwAppK r kd i j d (k + 1)) from rfl) hw) (lv_sub hl [1, 2, 3, 4, 5, 6, 0] rfl)
  exact loop_42 ((4 - 0) + 1) 0 (Nat.lt_succ_self _) (by first | assumption | omega | rfl) _ _ _ (wW.eq (show wRw G a (r.1, (upd r.2.1 r.1 kd), (updN r.2.2.1 r.1 i), (updN r.2.2.2.1 r.1 j), (upd r.2.2.2.2.1 r.1 d), r.2.2.2.2.2.1, r.2.2.2.2.2.2) = wRw G a (rwAppK r kd i j d 0) from rfl) hw) (lv_sub hl [2, 3, 4, 5, 6, 1, 0] rfl)

theorem wiX3_countTold_countTold_X3 : ∀ w ∈ wsX30, w ∈ wsX3_countTold := by decide +kernel
theorem wmX3_countTold_countTold_0 : Cond.fieldLink RX3 32 "PartSketch$WishRows" "count" "I" ∈ wsX3_countTold := by decide +kernel
theorem wmX3_countTold_countTold_1 : Cond.fieldLink RX3 29 "PartSketch$WishRows" "told" "[[I" ∈ wsX3_countTold := by decide +kernel
set_option maxHeartbeats 4000000 in
set_option maxRecDepth 100000 in
/-- WishRows.countTold -/
theorem c_countTold (l : Launch) (G : gT) (a : aRw) (r : tRw) (v : Nat) (hv : v < 4) (hc : r.1 ≤ 40) (sz : Nat) : MI l yX3_countTold wsX3_countTold ({ frames := 0, cells := 0, slots := 0, locals := 0 }) G [.ref a.1, .int (nI v)] (wRw G a r) (wRw G a r) sz (rwCountK r v r.1) 0 0 := by
  refine m_of (Qc := fun A => (va_Qi (fun (r9 : Int32) (_ : Unit) => r9 = (rwCountK r v r.1)) (fun _ t9 => wPost G A (wRw G a r) t9) A)) (cc := cX3_countTold) (maxL := 4) (ret := (some .int)) (by decide) rfl (Nat.le_of_ble_eq_true rfl) ?_
  intro p e s m A below meth c H locs ls hx hb hr hts hown hlocks hin hml hK hA hw hl
  have hl : lv_has ls 4 [(0, .ref a.1), (1, .int (nI v))] := hl
  refine lv_iconst (v := 0) hx hb dX3_countTold_0 (by decide) ?_
  refine lv_istore_n (lv' := [(2, .int 0), (0, .ref a.1), (1, .int (nI v))]) hx hb dX3_countTold_1 rfl hl (by decide) rfl (fun ls hl => ?_)
  refine lv_iconst (v := 0) hx hb dX3_countTold_2 (by decide) ?_
  refine lv_istore_n (lv' := [(3, .int 0), (2, .int 0), (0, .ref a.1), (1, .int (nI v))]) hx hb dX3_countTold_3 rfl hl (by decide) rfl (fun ls hl => ?_)
  have loop_4 : ∀ (nf : Nat) (k : Nat) (hnf : (r.1 - k) < nf) (hk : k ≤ r.1), ∀ (H : Heap) (locs : List Loc) (ls : Array Slot), wW G A s.heap (wRw G a r) H locs → lv_has ls 4 [(0, .ref a.1), (1, .int (nI v)), (2, .int (rwCountK r v k)), (3, .int (nI k))] → W p l e ({ frames := 0, cells := 0, slots := 0, locals := 0 }) s m [.ref a.1, .int (nI v)].toArray below meth c H locs 0 0 (MQ below (va_Qi (fun (r9 : Int32) (_ : Unit) => r9 = (rwCountK r v r.1)) (fun _ t9 => wPost G A (wRw G a r) t9) A) [.ref a.1, .int (nI v)].toArray s 0 0 A) (F0 m 4 ls []) := by
    intro nf
    induction nf with
    | zero => intro k hnf hk; exact absurd hnf (Nat.not_lt_zero _)
    | succ nf ih_4 =>
      intro k hnf hk H locs ls hw hl
      refine lv_iload_n hx hb dX3_countTold_4 rfl (lv_at hl 3 rfl) ?_
      refine lv_aload_n hx hb dX3_countTold_5 rfl (lv_at hl 0 rfl) ?_
      refine r_get (ci := 3) (v := .int (nI r.1)) (C := RX3) (T := TX3) (N := 7) hx hb hts wiX3_countTold_countTold_X3 hown hK hw 0 rfl rfl 0 (by decide) wmX3_countTold_countTold_0 (fun _ h9 => h9) rfl dX3_countTold_6 ?_
      refine lv_icmp_ge (tgt := 34) hx hb dX3_countTold_9 (by decide) (fun c_9 => ?_) (fun c_9 => ?_)
      · have hx_9 : r.1 ≤ k := ct_ge (k := k) (n := r.1) (by omega) (by omega) c_9
        refine lv_iload_n hx hb dX3_countTold_34 rfl (lv_at hl 2 rfl) ?_
        exact m_iret hx hb hr hlocks hK hw (Nat.le_of_ble_eq_true rfl) (Nat.le_of_ble_eq_true rfl) dX3_countTold_35 (show (rwCountK r v k : Int32) = rwCountK r v r.1 by rw [show k = r.1 by omega]) rfl
      · have hc_9 : k < r.1 := ct_nge (k := k) (n := r.1) (by omega) (by omega) c_9
        refine lv_aload_n hx hb dX3_countTold_12 rfl (lv_at hl 0 rfl) ?_
        refine r_get (ci := 3) (v := .ref a.2.2.2.2.2.2.1) (C := RX3) (T := TX3) (N := 7) hx hb hts wiX3_countTold_countTold_X3 hown hK hw 0 rfl rfl 6 (by decide) wmX3_countTold_countTold_1 (fun _ h9 => h9) rfl dX3_countTold_13 ?_
        refine lv_iload_n hx hb dX3_countTold_16 rfl (lv_at hl 1 rfl) ?_
        refine r_aldM (v := a.2.2.2.2.2.2.2 v) hx hb hK hw 6 rfl v rfl (by omega) (by decide) rfl dX3_countTold_17 ?_
        refine lv_iload_n hx hb dX3_countTold_18 rfl (lv_at hl 3 rfl) ?_
        refine r_iald (v := (r.2.2.2.2.2.2 v) k) hx hb hK hw (7 + v) (rw_at (by omega)) k rfl (by omega) (by decide) rfl dX3_countTold_19 ?_
        refine lv_bipush (v := 101) hx hb dX3_countTold_20 (by decide) ?_
        refine lv_icmp_eq (tgt := 28) hx hb dX3_countTold_22 (by decide) (fun c_22 => ?_) (fun c_22 => ?_)
        · refine lv_iinc (v := nI (k + 1)) (lv' := [(3, .int (nI (k + 1))), (0, .ref a.1), (1, .int (nI v)), (2, .int (rwCountK r v k))]) hx hb dX3_countTold_28 hl (k := 3) rfl (nI_add k 1) (by decide) rfl (fun ls hl => ?_)
          refine lv_goto (tgt := 4) hx hb dX3_countTold_31 (by decide) ?_
          exact ih_4 (k + 1) (by omega) (by first | assumption | omega | rfl) _ _ _ hw (lv_sub hl [1, 2, 3, 0] (show lv_pick [(3, .int (nI (k + 1))), (0, .ref a.1), (1, .int (nI v)), (2, .int (rwCountK r v k))] [1, 2, 3, 0] = [(0, .ref a.1), (1, .int (nI v)), (2, .int (rwCountK r v (k + 1))), (3, .int (nI (k + 1)))] by simp only [rwCountK, if_pos c_22]; rfl))
        · refine lv_iinc (v := (rwCountK r v k) + 1) (lv' := [(2, .int ((rwCountK r v k) + 1)), (0, .ref a.1), (1, .int (nI v)), (3, .int (nI k))]) hx hb dX3_countTold_25 hl (k := 2) rfl rfl (by decide) rfl (fun ls hl => ?_)
          refine lv_iinc (v := nI (k + 1)) (lv' := [(3, .int (nI (k + 1))), (2, .int ((rwCountK r v k) + 1)), (0, .ref a.1), (1, .int (nI v))]) hx hb dX3_countTold_28 hl (k := 3) rfl (nI_add k 1) (by decide) rfl (fun ls hl => ?_)
          refine lv_goto (tgt := 4) hx hb dX3_countTold_31 (by decide) ?_
          exact ih_4 (k + 1) (by omega) (by first | assumption | omega | rfl) _ _ _ hw (lv_sub hl [2, 3, 1, 0] (show lv_pick [(3, .int (nI (k + 1))), (2, .int ((rwCountK r v k) + 1)), (0, .ref a.1), (1, .int (nI v))] [2, 3, 1, 0] = [(0, .ref a.1), (1, .int (nI v)), (2, .int (rwCountK r v (k + 1))), (3, .int (nI (k + 1)))] by simp only [rwCountK, if_neg c_22]; rfl))
  exact loop_4 ((r.1 - 0) + 1) 0 (Nat.lt_succ_self _) (by first | assumption | omega | rfl) _ _ _ hw (lv_sub hl [2, 3, 1, 0] rfl)

theorem wiX3_takeOver_takeOver_X3 : ∀ w ∈ wsX30, w ∈ wsX3_takeOver := by decide +kernel
theorem wmX3_takeOver_takeOver_0 : Cond.fieldLink RX3 32 "PartSketch$WishRows" "count" "I" ∈ wsX3_takeOver := by decide +kernel
theorem wmX3_takeOver_takeOver_1 : Cond.fieldLink RX3 29 "PartSketch$WishRows" "told" "[[I" ∈ wsX3_takeOver := by decide +kernel
theorem wmX3_takeOver_takeOver_2 : Cond.fieldLink RX3 21 "PartSketch$WishRows" "size" "[I" ∈ wsX3_takeOver := by decide +kernel
set_option maxHeartbeats 4000000 in
set_option maxRecDepth 100000 in
/-- WishRows.takeOver -/
theorem c_takeOver (l : Launch) (G : gT) (a : aRw) (r : tRw) (v : Nat) (hv : v < 4) (hc : r.1 ≤ 40) (sz : Nat) : MI l yX3_takeOver wsX3_takeOver ({ frames := 0, cells := 0, slots := 0, locals := 0 }) G [.ref a.1, .int (nI v)] (wRw G a r) (wRw G a (r.1, r.2.1, r.2.2.1, r.2.2.2.1, (rwTakeK r v r.1).2, r.2.2.2.2.2.1, r.2.2.2.2.2.2)) sz ((rwTakeK r v r.1).1) 0 0 := by
  refine m_of (Qc := fun A => (va_Qi (fun (r9 : Int32) (_ : Unit) => r9 = ((rwTakeK r v r.1).1)) (fun _ t9 => wPost G A (wRw G a (r.1, r.2.1, r.2.2.1, r.2.2.2.1, (rwTakeK r v r.1).2, r.2.2.2.2.2.1, r.2.2.2.2.2.2)) t9) A)) (cc := cX3_takeOver) (maxL := 5) (ret := (some .int)) (by decide) rfl (Nat.le_of_ble_eq_true rfl) ?_
  intro p e s m A below meth c H locs ls hx hb hr hts hown hlocks hin hml hK hA hw hl
  have hl : lv_has ls 5 [(0, .ref a.1), (1, .int (nI v))] := hl
  refine lv_iconst (v := 0) hx hb dX3_takeOver_0 (by decide) ?_
  refine lv_istore_n (lv' := [(2, .int 0), (0, .ref a.1), (1, .int (nI v))]) hx hb dX3_takeOver_1 rfl hl (by decide) rfl (fun ls hl => ?_)
  refine lv_iconst (v := 0) hx hb dX3_takeOver_2 (by decide) ?_
  refine lv_istore_n (lv' := [(3, .int 0), (2, .int 0), (0, .ref a.1), (1, .int (nI v))]) hx hb dX3_takeOver_3 rfl hl (by decide) rfl (fun ls hl => ?_)
  have loop_4 : ∀ (nf : Nat) (k : Nat) (hnf : (r.1 - k) < nf) (hk : k ≤ r.1), ∀ (H : Heap) (locs : List Loc) (ls : Array Slot), wW G A s.heap (wRw G a (r.1, r.2.1, r.2.2.1, r.2.2.2.1, (rwTakeK r v k).2, r.2.2.2.2.2.1, r.2.2.2.2.2.2)) H locs → lv_has ls 5 [(0, .ref a.1), (1, .int (nI v)), (2, .int ((rwTakeK r v k).1)), (3, .int (nI k))] → W p l e ({ frames := 0, cells := 0, slots := 0, locals := 0 }) s m [.ref a.1, .int (nI v)].toArray below meth c H locs 0 0 (MQ below (va_Qi (fun (r9 : Int32) (_ : Unit) => r9 = ((rwTakeK r v r.1).1)) (fun _ t9 => wPost G A (wRw G a (r.1, r.2.1, r.2.2.1, r.2.2.2.1, (rwTakeK r v r.1).2, r.2.2.2.2.2.1, r.2.2.2.2.2.2)) t9) A) [.ref a.1, .int (nI v)].toArray s 0 0 A) (F0 m 4 ls []) := by
    intro nf
    induction nf with
    | zero => intro k hnf hk; exact absurd hnf (Nat.not_lt_zero _)
    | succ nf ih_4 =>
      intro k hnf hk H locs ls hw hl
      refine lv_iload_n hx hb dX3_takeOver_4 rfl (lv_at hl 3 rfl) ?_
      refine lv_aload_n hx hb dX3_takeOver_5 rfl (lv_at hl 0 rfl) ?_
      refine r_get (ci := 3) (v := .int (nI r.1)) (C := RX3) (T := TX3) (N := 7) hx hb hts wiX3_takeOver_takeOver_X3 hown hK hw 0 rfl rfl 0 (by decide) wmX3_takeOver_takeOver_0 (fun _ h9 => h9) rfl dX3_takeOver_6 ?_
      refine lv_icmp_ge (tgt := 57) hx hb dX3_takeOver_9 (by decide) (fun c_9 => ?_) (fun c_9 => ?_)
      · have hx_9 : r.1 ≤ k := ct_ge (k := k) (n := r.1) (by omega) (by omega) c_9
        refine lv_iload_n hx hb dX3_takeOver_57 rfl (lv_at hl 2 rfl) ?_
        exact m_iret hx hb hr hlocks hK hw (Nat.le_of_ble_eq_true rfl) (Nat.le_of_ble_eq_true rfl) dX3_takeOver_58 (show ((rwTakeK r v k).1 : Int32) = (rwTakeK r v r.1).1 by rw [show k = r.1 by omega]) (show wRw G a (r.1, r.2.1, r.2.2.1, r.2.2.2.1, (rwTakeK r v k).2, r.2.2.2.2.2.1, r.2.2.2.2.2.2) = wRw G a (r.1, r.2.1, r.2.2.1, r.2.2.2.1, (rwTakeK r v r.1).2, r.2.2.2.2.2.1, r.2.2.2.2.2.2) by rw [show k = r.1 by omega])
      · have hc_9 : k < r.1 := ct_nge (k := k) (n := r.1) (by omega) (by omega) c_9
        refine lv_aload_n hx hb dX3_takeOver_12 rfl (lv_at hl 0 rfl) ?_
        refine r_get (ci := 3) (v := .ref a.2.2.2.2.2.2.1) (C := RX3) (T := TX3) (N := 7) hx hb hts wiX3_takeOver_takeOver_X3 hown hK hw 0 rfl rfl 6 (by decide) wmX3_takeOver_takeOver_1 (fun _ h9 => h9) rfl dX3_takeOver_13 ?_
        refine lv_iload_n hx hb dX3_takeOver_16 rfl (lv_at hl 1 rfl) ?_
        refine r_aldM (v := a.2.2.2.2.2.2.2 v) hx hb hK hw 6 rfl v rfl (by omega) (by decide) rfl dX3_takeOver_17 ?_
        refine lv_iload_n hx hb dX3_takeOver_18 rfl (lv_at hl 3 rfl) ?_
        refine r_iald (v := (r.2.2.2.2.2.2 v) k) hx hb hK hw (7 + v) (rw_at (by omega)) k rfl (by omega) (by decide) rfl dX3_takeOver_19 ?_
        refine lv_istore (lv' := [(4, .int ((r.2.2.2.2.2.2 v) k)), (0, .ref a.1), (1, .int (nI v)), (2, .int ((rwTakeK r v k).1)), (3, .int (nI k))]) hx hb dX3_takeOver_20 hl (by decide) rfl (fun ls hl => ?_)
        refine lv_iload hx hb dX3_takeOver_22 (lv_at hl 0 rfl) ?_
        refine lv_bipush (v := 101) hx hb dX3_takeOver_24 (by decide) ?_
        refine lv_icmp_eq (tgt := 51) hx hb dX3_takeOver_26 (by decide) (fun c_26 => ?_) (fun c_26 => ?_)
        · refine lv_iinc (v := nI (k + 1)) (lv' := [(3, .int (nI (k + 1))), (4, .int ((r.2.2.2.2.2.2 v) k)), (0, .ref a.1), (1, .int (nI v)), (2, .int ((rwTakeK r v k).1))]) hx hb dX3_takeOver_51 hl (k := 4) rfl (nI_add k 1) (by decide) rfl (fun ls hl => ?_)
          refine lv_goto (tgt := 4) hx hb dX3_takeOver_54 (by decide) ?_
          exact ih_4 (k + 1) (by omega) (by first | assumption | omega | rfl) _ _ _ (wW.eq (show wRw G a (r.1, r.2.1, r.2.2.1, r.2.2.2.1, (rwTakeK r v k).2, r.2.2.2.2.2.1, r.2.2.2.2.2.2) = wRw G a (r.1, r.2.1, r.2.2.1, r.2.2.2.1, (rwTakeK r v (k + 1)).2, r.2.2.2.2.2.1, r.2.2.2.2.2.2) from (by simp only [rwTakeK, if_pos c_26])) hw) (lv_sub hl [2, 3, 4, 0] (show lv_pick [(3, .int (nI (k + 1))), (4, .int ((r.2.2.2.2.2.2 v) k)), (0, .ref a.1), (1, .int (nI v)), (2, .int ((rwTakeK r v k).1))] [2, 3, 4, 0] = [(0, .ref a.1), (1, .int (nI v)), (2, .int ((rwTakeK r v (k + 1)).1)), (3, .int (nI (k + 1)))] by simp only [rwTakeK, if_pos c_26]; rfl))
        · refine lv_iload hx hb dX3_takeOver_29 (lv_at hl 0 rfl) ?_
          refine lv_aload_n hx hb dX3_takeOver_31 rfl (lv_at hl 1 rfl) ?_
          refine r_get (ci := 3) (v := .ref a.2.2.2.2.1) (C := RX3) (T := TX3) (N := 7) hx hb hts wiX3_takeOver_takeOver_X3 hown hK hw 0 rfl rfl 4 (by decide) wmX3_takeOver_takeOver_2 (fun _ h9 => h9) rfl dX3_takeOver_32 ?_
          refine lv_iload_n hx hb dX3_takeOver_35 rfl (lv_at hl 4 rfl) ?_
          refine r_iald (v := ((rwTakeK r v k).2) k) hx hb hK hw 4 rfl k rfl (by omega) (by decide) rfl dX3_takeOver_36 ?_
          refine lv_icmp_eq (tgt := 51) hx hb dX3_takeOver_37 (by decide) (fun c_37 => ?_) (fun c_37 => ?_)
          · refine lv_iinc (v := nI (k + 1)) (lv' := [(3, .int (nI (k + 1))), (4, .int ((r.2.2.2.2.2.2 v) k)), (0, .ref a.1), (1, .int (nI v)), (2, .int ((rwTakeK r v k).1))]) hx hb dX3_takeOver_51 hl (k := 4) rfl (nI_add k 1) (by decide) rfl (fun ls hl => ?_)
            refine lv_goto (tgt := 4) hx hb dX3_takeOver_54 (by decide) ?_
            exact ih_4 (k + 1) (by omega) (by first | assumption | omega | rfl) _ _ _ (wW.eq (show wRw G a (r.1, r.2.1, r.2.2.1, r.2.2.2.1, (rwTakeK r v k).2, r.2.2.2.2.2.1, r.2.2.2.2.2.2) = wRw G a (r.1, r.2.1, r.2.2.1, r.2.2.2.1, (rwTakeK r v (k + 1)).2, r.2.2.2.2.2.1, r.2.2.2.2.2.2) from (by simp only [rwTakeK, if_neg c_26, if_pos c_37])) hw) (lv_sub hl [2, 3, 4, 0] (show lv_pick [(3, .int (nI (k + 1))), (4, .int ((r.2.2.2.2.2.2 v) k)), (0, .ref a.1), (1, .int (nI v)), (2, .int ((rwTakeK r v k).1))] [2, 3, 4, 0] = [(0, .ref a.1), (1, .int (nI v)), (2, .int ((rwTakeK r v (k + 1)).1)), (3, .int (nI (k + 1)))] by simp only [rwTakeK, if_neg c_26, if_pos c_37]; rfl))
          · refine lv_aload_n hx hb dX3_takeOver_40 rfl (lv_at hl 1 rfl) ?_
            refine r_get (ci := 3) (v := .ref a.2.2.2.2.1) (C := RX3) (T := TX3) (N := 7) hx hb hts wiX3_takeOver_takeOver_X3 hown hK hw 0 rfl rfl 4 (by decide) wmX3_takeOver_takeOver_2 (fun _ h9 => h9) rfl dX3_takeOver_41 ?_
            refine lv_iload_n hx hb dX3_takeOver_44 rfl (lv_at hl 4 rfl) ?_
            refine lv_iload hx hb dX3_takeOver_45 (lv_at hl 0 rfl) ?_
            refine r_iast hx hb hK hw 4 rfl k rfl (by omega) (by decide) dX3_takeOver_47 (ws' := wRw G a (r.1, r.2.1, r.2.2.1, r.2.2.2.1, (upd ((rwTakeK r v k).2) k ((r.2.2.2.2.2.2 v) k)), r.2.2.2.2.2.1, r.2.2.2.2.2.2)) rfl (fun H locs hw => ?_)
            refine lv_iinc (v := ((rwTakeK r v k).1) + 1) (lv' := [(2, .int (((rwTakeK r v k).1) + 1)), (4, .int ((r.2.2.2.2.2.2 v) k)), (0, .ref a.1), (1, .int (nI v)), (3, .int (nI k))]) hx hb dX3_takeOver_48 hl (k := 3) rfl rfl (by decide) rfl (fun ls hl => ?_)
            refine lv_iinc (v := nI (k + 1)) (lv' := [(3, .int (nI (k + 1))), (2, .int (((rwTakeK r v k).1) + 1)), (4, .int ((r.2.2.2.2.2.2 v) k)), (0, .ref a.1), (1, .int (nI v))]) hx hb dX3_takeOver_51 hl (k := 4) rfl (nI_add k 1) (by decide) rfl (fun ls hl => ?_)
            refine lv_goto (tgt := 4) hx hb dX3_takeOver_54 (by decide) ?_
            exact ih_4 (k + 1) (by omega) (by first | assumption | omega | rfl) _ _ _ (wW.eq (show wRw G a (r.1, r.2.1, r.2.2.1, r.2.2.2.1, (upd ((rwTakeK r v k).2) k ((r.2.2.2.2.2.2 v) k)), r.2.2.2.2.2.1, r.2.2.2.2.2.2) = wRw G a (r.1, r.2.1, r.2.2.1, r.2.2.2.1, (rwTakeK r v (k + 1)).2, r.2.2.2.2.2.1, r.2.2.2.2.2.2) from (by simp only [rwTakeK, if_neg c_26, if_neg c_37])) hw) (lv_sub hl [3, 4, 1, 0] (show lv_pick [(3, .int (nI (k + 1))), (2, .int (((rwTakeK r v k).1) + 1)), (4, .int ((r.2.2.2.2.2.2 v) k)), (0, .ref a.1), (1, .int (nI v))] [3, 4, 1, 0] = [(0, .ref a.1), (1, .int (nI v)), (2, .int ((rwTakeK r v (k + 1)).1)), (3, .int (nI (k + 1)))] by simp only [rwTakeK, if_neg c_26, if_neg c_37]; rfl))
  exact loop_4 ((r.1 - 0) + 1) 0 (Nat.lt_succ_self _) (by first | assumption | omega | rfl) _ _ _ (wW.eq (show wRw G a r = wRw G a (r.1, r.2.1, r.2.2.1, r.2.2.2.1, (rwTakeK r v 0).2, r.2.2.2.2.2.1, r.2.2.2.2.2.2) from rfl) hw) (lv_sub hl [2, 3, 1, 0] rfl)
end
section
/-! PartSketch$Block and PartSketch$Body: what their methods compute, written as they do it -/
def bkFlat (l r lo hi : Int32) : Int32 := if l = r then 1 else if lo = hi then 1 else 0
def bkLies (b c : tBk) : Int32 := if b.2.2.2.2.1 < c.2.2.2.2.1 then 0 else if c.2.2.2.2.2.1 < b.2.2.2.2.2.1 then 0 else if b.2.2.2.2.2.2.1 < c.2.2.2.2.2.2.1 then 0 else if c.2.2.2.2.2.2.2.1 < b.2.2.2.2.2.2.2.1 then 0 else 1
def bkSides (x y : tAx) (b : tBk) : tBk := (b.1, b.2.1, b.2.2.1, b.2.2.2.1, iMin (axPl x b.1) (axPl x b.2.1), iMax (axPl x b.1) (axPl x b.2.1), iMin (axPl y b.1) (axPl y b.2.1), iMax (axPl y b.1) (axPl y b.2.1), b.2.2.2.2.2.2.2.2.1, b.2.2.2.2.2.2.2.2.2)
def bkFail (fl : Int32) (b c : tBk) (bot h : Int32) : Int32 := if fl = 0 then (if c.2.2.2.2.2.2.2.2.2 = 0 then (if bkLies b c = 0 then 1 else if bot < h then 0 else 1) else 1) else 1
def bkFl (b : tBk) : Int32 := bkFlat b.2.2.2.2.1 b.2.2.2.2.2.1 b.2.2.2.2.2.2.1 b.2.2.2.2.2.2.2.1
def bkBot (b : tBk) (v : Int32) : tBk := (b.1, b.2.1, b.2.2.1, b.2.2.2.1, b.2.2.2.2.1, b.2.2.2.2.2.1, b.2.2.2.2.2.2.1, b.2.2.2.2.2.2.2.1, v, b.2.2.2.2.2.2.2.2.2)
def bkSet (b : tBk) (v : Int32) : tBk := (b.1, b.2.1, b.2.2.1, b.2.2.2.1, b.2.2.2.2.1, b.2.2.2.2.2.1, b.2.2.2.2.2.2.1, b.2.2.2.2.2.2.2.1, b.2.2.2.2.2.2.2.2.1, v)
/-- a block measured: the base, or a pocket in c -/
def bkMeas0 (x y : tAx) (b : tBk) : tBk := bkSet (bkBot (bkSides x y b) 0) (bkFl (bkSides x y b))
def bkMeas1 (x y : tAx) (h : Int32) (b c : tBk) : tBk := bkSet (bkBot (bkSides x y b) (c.2.2.2.2.2.2.2.2.1 + b.2.2.1)) (bkFail (bkFl (bkSides x y b)) (bkSides x y b) c (c.2.2.2.2.2.2.2.2.1 + b.2.2.1) h)
def bkMeas (x y : tAx) (h : Int32) (T : Nat → tBk) (i : Nat) : tBk := match (T i).2.2.2.1 with
  | none => bkMeas0 x y (T i)
  | some j => bkMeas1 x y h (T i) (T j)
def bkCells (b : tBk) : Int32 := (b.2.2.2.2.2.1 - b.2.2.2.2.1) * (b.2.2.2.2.2.2.2.1 - b.2.2.2.2.2.2.1) * b.2.2.1
def bkCovers (b : tBk) (u v : Int32) : Int32 := if u < b.2.2.2.2.1 then 0 else if b.2.2.2.2.2.1 ≤ u then 0 else if v < b.2.2.2.2.2.2.1 then 0 else if b.2.2.2.2.2.2.2.1 ≤ v then 0 else 1
def bkLayers (b : tBk) : Int64 := (((1 : Int64) <<< ((b.2.2.1).toInt64 &&& 63)) - 1) <<< ((b.2.2.2.2.2.2.2.2.1 - b.2.2.1).toInt64 &&& 63)
theorem bkFlat_1 {l r lo hi : Int32} (h : l = r) : 1 = bkFlat l r lo hi := (if_pos h).symm
theorem bkFlat_2 {l r lo hi : Int32} (h : ¬ l = r) (h2 : lo = hi) : 1 = bkFlat l r lo hi := by unfold bkFlat; rw [if_neg h, if_pos h2]
theorem bkFlat_3 {l r lo hi : Int32} (h : ¬ l = r) (h2 : ¬ lo = hi) : 0 = bkFlat l r lo hi := by unfold bkFlat; rw [if_neg h, if_neg h2]
theorem bkFail_1 {fl bot h : Int32} {b c : tBk} (h1 : ¬ fl = 0) : 1 = bkFail fl b c bot h := by unfold bkFail; rw [if_neg h1]
theorem bkFail_2 {fl bot h : Int32} {b c : tBk} (h1 : fl = 0) (h2 : ¬ c.2.2.2.2.2.2.2.2.2 = 0) : 1 = bkFail fl b c bot h := by unfold bkFail; rw [if_pos h1, if_neg h2]
theorem bkFail_3 {fl bot h : Int32} {b c : tBk} (h1 : fl = 0) (h2 : c.2.2.2.2.2.2.2.2.2 = 0) (h3 : bkLies b c = 0) : 1 = bkFail fl b c bot h := by unfold bkFail; rw [if_pos h1, if_pos h2, if_pos h3]
theorem bkFail_4 {fl bot h : Int32} {b c : tBk} (h1 : fl = 0) (h2 : c.2.2.2.2.2.2.2.2.2 = 0) (h3 : ¬ bkLies b c = 0) (h4 : bot < h) : 0 = bkFail fl b c bot h := by unfold bkFail; rw [if_pos h1, if_pos h2, if_neg h3, if_pos h4]
theorem bkFail_5 {fl bot h : Int32} {b c : tBk} (h1 : fl = 0) (h2 : c.2.2.2.2.2.2.2.2.2 = 0) (h3 : ¬ bkLies b c = 0) (h4 : ¬ bot < h) : 1 = bkFail fl b c bot h := by unfold bkFail; rw [if_pos h1, if_pos h2, if_neg h3, if_neg h4]
theorem bkFlat01 (l r lo hi : Int32) : bkFlat l r lo hi = 0 ∨ bkFlat l r lo hi = 1 := by unfold bkFlat; split; exact Or.inr rfl; split; exact Or.inr rfl; exact Or.inl rfl

theorem wiX1_put_put0_X1 : ∀ w ∈ wsX10, w ∈ wsX1_put := by decide +kernel
theorem wmX1_put_put0_0 : Cond.fieldLink RX1 7 "PartSketch$Block" "one" "I" ∈ wsX1_put := by decide +kernel
theorem wmX1_put_put0_1 : Cond.fieldLink RX1 13 "PartSketch$Block" "other" "I" ∈ wsX1_put := by decide +kernel
theorem wmX1_put_put0_2 : Cond.fieldLink RX1 16 "PartSketch$Block" "depth" "I" ∈ wsX1_put := by decide +kernel
theorem wmX1_put_put0_3 : Cond.fieldLink RX1 19 "PartSketch$Block" "outer" "LPartSketch$Block;" ∈ wsX1_put := by decide +kernel
set_option maxHeartbeats 4000000 in
set_option maxRecDepth 100000 in
/-- Block.put -/
theorem c_put0 (l : Launch) (G : gT) (a : aBd) (b : tBd) (i : Nat) (u : Nat) (v : Nat) (d : Int32) (hi : i < 9) (sz : Nat) : MV l yX1_put wsX1_put ({ frames := 0, cells := 0, slots := 0, locals := 0 }) G [.ref (a.2.2.2.2 i), .int (nI u), .int (nI v), .int d, .null] (wBd G a b) (wBd G a (b.1, b.2.1, b.2.2.1, b.2.2.2.1, (updB b.2.2.2.2 i (u, v, d, none, (b.2.2.2.2 i).2.2.2.2.1, (b.2.2.2.2 i).2.2.2.2.2.1, (b.2.2.2.2 i).2.2.2.2.2.2.1, (b.2.2.2.2 i).2.2.2.2.2.2.2.1, (b.2.2.2.2 i).2.2.2.2.2.2.2.2.1, (b.2.2.2.2 i).2.2.2.2.2.2.2.2.2)))) sz 0 0 := by
  refine m_of (Qc := fun A => (va_Qv (fun (_ : Unit) => True) (fun _ t9 => wPost G A (wBd G a (b.1, b.2.1, b.2.2.1, b.2.2.2.1, (updB b.2.2.2.2 i (u, v, d, none, (b.2.2.2.2 i).2.2.2.2.1, (b.2.2.2.2 i).2.2.2.2.2.1, (b.2.2.2.2 i).2.2.2.2.2.2.1, (b.2.2.2.2 i).2.2.2.2.2.2.2.1, (b.2.2.2.2 i).2.2.2.2.2.2.2.2.1, (b.2.2.2.2 i).2.2.2.2.2.2.2.2.2)))) t9) A)) (cc := cX1_put) (maxL := 5) (ret := none) (by decide) rfl (Nat.le_of_ble_eq_true rfl) ?_
  intro p e s m A below meth c H locs ls hx hb hr hts hown hlocks hin hml hK hA hw hl
  have hl : lv_has ls 5 [(0, .ref (a.2.2.2.2 i)), (1, .int (nI u)), (2, .int (nI v)), (3, .int d), (4, .null)] := hl
  refine lv_aload_n hx hb dX1_put_0 rfl (lv_at hl 0 rfl) ?_
  refine lv_iload_n hx hb dX1_put_1 rfl (lv_at hl 1 rfl) ?_
  refine r_put (ci := 1) (v := .int (nI u)) (ty := .int) (C := RX1) (T := TX1) (N := 10) hx hb hts wiX1_put_put0_X1 tyX1 tyX1_ok nmX1 hown hK hw (4 + i) (bd_at (by omega)) rfl 0 (by decide) wmX1_put_put0_0 (fun _ h9 => h9) rfl (by decide +kernel) rfl rfl (Nat.le_of_ble_eq_true rfl) dX1_put_2 (ws' := wBd G a (b.1, b.2.1, b.2.2.1, b.2.2.2.1, (updB b.2.2.2.2 i (u, (b.2.2.2.2 i).2.1, (b.2.2.2.2 i).2.2.1, (b.2.2.2.2 i).2.2.2.1, (b.2.2.2.2 i).2.2.2.2.1, (b.2.2.2.2 i).2.2.2.2.2.1, (b.2.2.2.2 i).2.2.2.2.2.2.1, (b.2.2.2.2 i).2.2.2.2.2.2.2.1, (b.2.2.2.2 i).2.2.2.2.2.2.2.2.1, (b.2.2.2.2 i).2.2.2.2.2.2.2.2.2)))) (bd_set (G := G) (a := a) (b := b) (f := (u, (b.2.2.2.2 i).2.1, (b.2.2.2.2 i).2.2.1, (b.2.2.2.2 i).2.2.2.1, (b.2.2.2.2 i).2.2.2.2.1, (b.2.2.2.2 i).2.2.2.2.2.1, (b.2.2.2.2 i).2.2.2.2.2.2.1, (b.2.2.2.2 i).2.2.2.2.2.2.2.1, (b.2.2.2.2 i).2.2.2.2.2.2.2.2.1, (b.2.2.2.2 i).2.2.2.2.2.2.2.2.2)) (v := i) (by omega)) (fun H locs hw => ?_)
  refine lv_aload_n hx hb dX1_put_5 rfl (lv_at hl 0 rfl) ?_
  refine lv_iload_n hx hb dX1_put_6 rfl (lv_at hl 2 rfl) ?_
  refine r_put (ci := 1) (v := .int (nI v)) (ty := .int) (C := RX1) (T := TX1) (N := 10) hx hb hts wiX1_put_put0_X1 tyX1 tyX1_ok nmX1 hown hK hw (4 + i) (bd_atu (by omega)) rfl 1 (by decide) wmX1_put_put0_1 (fun _ h9 => h9) rfl (by decide +kernel) rfl rfl (Nat.le_of_ble_eq_true rfl) dX1_put_7 (ws' := wBd G a (b.1, b.2.1, b.2.2.1, b.2.2.2.1, (updB b.2.2.2.2 i (u, v, (b.2.2.2.2 i).2.2.1, (b.2.2.2.2 i).2.2.2.1, (b.2.2.2.2 i).2.2.2.2.1, (b.2.2.2.2 i).2.2.2.2.2.1, (b.2.2.2.2 i).2.2.2.2.2.2.1, (b.2.2.2.2 i).2.2.2.2.2.2.2.1, (b.2.2.2.2 i).2.2.2.2.2.2.2.2.1, (b.2.2.2.2 i).2.2.2.2.2.2.2.2.2)))) (bd_setu (G := G) (a := a) (h := b.1) (n := b.2.1) (xs := b.2.2.1) (ys := b.2.2.2.1) (T := b.2.2.2.2) (f := (u, (b.2.2.2.2 i).2.1, (b.2.2.2.2 i).2.2.1, (b.2.2.2.2 i).2.2.2.1, (b.2.2.2.2 i).2.2.2.2.1, (b.2.2.2.2 i).2.2.2.2.2.1, (b.2.2.2.2 i).2.2.2.2.2.2.1, (b.2.2.2.2 i).2.2.2.2.2.2.2.1, (b.2.2.2.2 i).2.2.2.2.2.2.2.2.1, (b.2.2.2.2 i).2.2.2.2.2.2.2.2.2)) (f' := (u, v, (b.2.2.2.2 i).2.2.1, (b.2.2.2.2 i).2.2.2.1, (b.2.2.2.2 i).2.2.2.2.1, (b.2.2.2.2 i).2.2.2.2.2.1, (b.2.2.2.2 i).2.2.2.2.2.2.1, (b.2.2.2.2 i).2.2.2.2.2.2.2.1, (b.2.2.2.2 i).2.2.2.2.2.2.2.2.1, (b.2.2.2.2 i).2.2.2.2.2.2.2.2.2)) (v := i) (by omega)) (fun H locs hw => ?_)
  refine lv_aload_n hx hb dX1_put_10 rfl (lv_at hl 0 rfl) ?_
  refine lv_iload_n hx hb dX1_put_11 rfl (lv_at hl 3 rfl) ?_
  refine r_put (ci := 1) (v := .int d) (ty := .int) (C := RX1) (T := TX1) (N := 10) hx hb hts wiX1_put_put0_X1 tyX1 tyX1_ok nmX1 hown hK hw (4 + i) (bd_atu (by omega)) rfl 2 (by decide) wmX1_put_put0_2 (fun _ h9 => h9) rfl (by decide +kernel) rfl rfl (Nat.le_of_ble_eq_true rfl) dX1_put_12 (ws' := wBd G a (b.1, b.2.1, b.2.2.1, b.2.2.2.1, (updB b.2.2.2.2 i (u, v, d, (b.2.2.2.2 i).2.2.2.1, (b.2.2.2.2 i).2.2.2.2.1, (b.2.2.2.2 i).2.2.2.2.2.1, (b.2.2.2.2 i).2.2.2.2.2.2.1, (b.2.2.2.2 i).2.2.2.2.2.2.2.1, (b.2.2.2.2 i).2.2.2.2.2.2.2.2.1, (b.2.2.2.2 i).2.2.2.2.2.2.2.2.2)))) (bd_setu (G := G) (a := a) (h := b.1) (n := b.2.1) (xs := b.2.2.1) (ys := b.2.2.2.1) (T := b.2.2.2.2) (f := (u, v, (b.2.2.2.2 i).2.2.1, (b.2.2.2.2 i).2.2.2.1, (b.2.2.2.2 i).2.2.2.2.1, (b.2.2.2.2 i).2.2.2.2.2.1, (b.2.2.2.2 i).2.2.2.2.2.2.1, (b.2.2.2.2 i).2.2.2.2.2.2.2.1, (b.2.2.2.2 i).2.2.2.2.2.2.2.2.1, (b.2.2.2.2 i).2.2.2.2.2.2.2.2.2)) (f' := (u, v, d, (b.2.2.2.2 i).2.2.2.1, (b.2.2.2.2 i).2.2.2.2.1, (b.2.2.2.2 i).2.2.2.2.2.1, (b.2.2.2.2 i).2.2.2.2.2.2.1, (b.2.2.2.2 i).2.2.2.2.2.2.2.1, (b.2.2.2.2 i).2.2.2.2.2.2.2.2.1, (b.2.2.2.2 i).2.2.2.2.2.2.2.2.2)) (v := i) (by omega)) (fun H locs hw => ?_)
  refine lv_aload_n hx hb dX1_put_15 rfl (lv_at hl 0 rfl) ?_
  refine lv_aloadN hx hb dX1_put_16 (lv_at hl 4 rfl) ?_
  refine r_put (ci := 1) (v := .null) (ty := .object "PartSketch$Block") (C := RX1) (T := TX1) (N := 10) hx hb hts wiX1_put_put0_X1 tyX1 tyX1_ok nmX1 hown hK hw (4 + i) (bd_atu (by omega)) rfl 3 (by decide) wmX1_put_put0_3 (fun _ h9 => h9) rfl (by decide +kernel) rfl rfl (Nat.le_of_ble_eq_true rfl) dX1_put_18 (ws' := wBd G a (b.1, b.2.1, b.2.2.1, b.2.2.2.1, (updB b.2.2.2.2 i (u, v, d, none, (b.2.2.2.2 i).2.2.2.2.1, (b.2.2.2.2 i).2.2.2.2.2.1, (b.2.2.2.2 i).2.2.2.2.2.2.1, (b.2.2.2.2 i).2.2.2.2.2.2.2.1, (b.2.2.2.2 i).2.2.2.2.2.2.2.2.1, (b.2.2.2.2 i).2.2.2.2.2.2.2.2.2)))) (bd_setu (G := G) (a := a) (h := b.1) (n := b.2.1) (xs := b.2.2.1) (ys := b.2.2.2.1) (T := b.2.2.2.2) (f := (u, v, d, (b.2.2.2.2 i).2.2.2.1, (b.2.2.2.2 i).2.2.2.2.1, (b.2.2.2.2 i).2.2.2.2.2.1, (b.2.2.2.2 i).2.2.2.2.2.2.1, (b.2.2.2.2 i).2.2.2.2.2.2.2.1, (b.2.2.2.2 i).2.2.2.2.2.2.2.2.1, (b.2.2.2.2 i).2.2.2.2.2.2.2.2.2)) (f' := (u, v, d, none, (b.2.2.2.2 i).2.2.2.2.1, (b.2.2.2.2 i).2.2.2.2.2.1, (b.2.2.2.2 i).2.2.2.2.2.2.1, (b.2.2.2.2 i).2.2.2.2.2.2.2.1, (b.2.2.2.2 i).2.2.2.2.2.2.2.2.1, (b.2.2.2.2 i).2.2.2.2.2.2.2.2.2)) (v := i) (by omega)) (fun H locs hw => ?_)
  exact m_vret hx hb hr hlocks hK hw (Nat.le_of_ble_eq_true rfl) (Nat.le_of_ble_eq_true rfl) dX1_put_21 rfl

theorem wiX1_put_putq_X1 : ∀ w ∈ wsX10, w ∈ wsX1_put := by decide +kernel
theorem wmX1_put_putq_0 : Cond.fieldLink RX1 7 "PartSketch$Block" "one" "I" ∈ wsX1_put := by decide +kernel
theorem wmX1_put_putq_1 : Cond.fieldLink RX1 13 "PartSketch$Block" "other" "I" ∈ wsX1_put := by decide +kernel
theorem wmX1_put_putq_2 : Cond.fieldLink RX1 16 "PartSketch$Block" "depth" "I" ∈ wsX1_put := by decide +kernel
theorem wmX1_put_putq_3 : Cond.fieldLink RX1 19 "PartSketch$Block" "outer" "LPartSketch$Block;" ∈ wsX1_put := by decide +kernel
set_option maxHeartbeats 4000000 in
set_option maxRecDepth 100000 in
/-- Block.put -/
theorem c_putq (l : Launch) (G : gT) (a : aBd) (b : tBd) (i : Nat) (u : Nat) (v : Nat) (d : Int32) (q : Nat) (hi : i < 9) (sz : Nat) : MV l yX1_put wsX1_put ({ frames := 0, cells := 0, slots := 0, locals := 0 }) G [.ref (a.2.2.2.2 i), .int (nI u), .int (nI v), .int d, .ref (a.2.2.2.2 q)] (wBd G a b) (wBd G a (b.1, b.2.1, b.2.2.1, b.2.2.2.1, (updB b.2.2.2.2 i (u, v, d, some q, (b.2.2.2.2 i).2.2.2.2.1, (b.2.2.2.2 i).2.2.2.2.2.1, (b.2.2.2.2 i).2.2.2.2.2.2.1, (b.2.2.2.2 i).2.2.2.2.2.2.2.1, (b.2.2.2.2 i).2.2.2.2.2.2.2.2.1, (b.2.2.2.2 i).2.2.2.2.2.2.2.2.2)))) sz 0 0 := by
  refine m_of (Qc := fun A => (va_Qv (fun (_ : Unit) => True) (fun _ t9 => wPost G A (wBd G a (b.1, b.2.1, b.2.2.1, b.2.2.2.1, (updB b.2.2.2.2 i (u, v, d, some q, (b.2.2.2.2 i).2.2.2.2.1, (b.2.2.2.2 i).2.2.2.2.2.1, (b.2.2.2.2 i).2.2.2.2.2.2.1, (b.2.2.2.2 i).2.2.2.2.2.2.2.1, (b.2.2.2.2 i).2.2.2.2.2.2.2.2.1, (b.2.2.2.2 i).2.2.2.2.2.2.2.2.2)))) t9) A)) (cc := cX1_put) (maxL := 5) (ret := none) (by decide) rfl (Nat.le_of_ble_eq_true rfl) ?_
  intro p e s m A below meth c H locs ls hx hb hr hts hown hlocks hin hml hK hA hw hl
  have hl : lv_has ls 5 [(0, .ref (a.2.2.2.2 i)), (1, .int (nI u)), (2, .int (nI v)), (3, .int d), (4, .ref (a.2.2.2.2 q))] := hl
  refine lv_aload_n hx hb dX1_put_0 rfl (lv_at hl 0 rfl) ?_
  refine lv_iload_n hx hb dX1_put_1 rfl (lv_at hl 1 rfl) ?_
  refine r_put (ci := 1) (v := .int (nI u)) (ty := .int) (C := RX1) (T := TX1) (N := 10) hx hb hts wiX1_put_putq_X1 tyX1 tyX1_ok nmX1 hown hK hw (4 + i) (bd_at (by omega)) rfl 0 (by decide) wmX1_put_putq_0 (fun _ h9 => h9) rfl (by decide +kernel) rfl rfl (Nat.le_of_ble_eq_true rfl) dX1_put_2 (ws' := wBd G a (b.1, b.2.1, b.2.2.1, b.2.2.2.1, (updB b.2.2.2.2 i (u, (b.2.2.2.2 i).2.1, (b.2.2.2.2 i).2.2.1, (b.2.2.2.2 i).2.2.2.1, (b.2.2.2.2 i).2.2.2.2.1, (b.2.2.2.2 i).2.2.2.2.2.1, (b.2.2.2.2 i).2.2.2.2.2.2.1, (b.2.2.2.2 i).2.2.2.2.2.2.2.1, (b.2.2.2.2 i).2.2.2.2.2.2.2.2.1, (b.2.2.2.2 i).2.2.2.2.2.2.2.2.2)))) (bd_set (G := G) (a := a) (b := b) (f := (u, (b.2.2.2.2 i).2.1, (b.2.2.2.2 i).2.2.1, (b.2.2.2.2 i).2.2.2.1, (b.2.2.2.2 i).2.2.2.2.1, (b.2.2.2.2 i).2.2.2.2.2.1, (b.2.2.2.2 i).2.2.2.2.2.2.1, (b.2.2.2.2 i).2.2.2.2.2.2.2.1, (b.2.2.2.2 i).2.2.2.2.2.2.2.2.1, (b.2.2.2.2 i).2.2.2.2.2.2.2.2.2)) (v := i) (by omega)) (fun H locs hw => ?_)
  refine lv_aload_n hx hb dX1_put_5 rfl (lv_at hl 0 rfl) ?_
  refine lv_iload_n hx hb dX1_put_6 rfl (lv_at hl 2 rfl) ?_
  refine r_put (ci := 1) (v := .int (nI v)) (ty := .int) (C := RX1) (T := TX1) (N := 10) hx hb hts wiX1_put_putq_X1 tyX1 tyX1_ok nmX1 hown hK hw (4 + i) (bd_atu (by omega)) rfl 1 (by decide) wmX1_put_putq_1 (fun _ h9 => h9) rfl (by decide +kernel) rfl rfl (Nat.le_of_ble_eq_true rfl) dX1_put_7 (ws' := wBd G a (b.1, b.2.1, b.2.2.1, b.2.2.2.1, (updB b.2.2.2.2 i (u, v, (b.2.2.2.2 i).2.2.1, (b.2.2.2.2 i).2.2.2.1, (b.2.2.2.2 i).2.2.2.2.1, (b.2.2.2.2 i).2.2.2.2.2.1, (b.2.2.2.2 i).2.2.2.2.2.2.1, (b.2.2.2.2 i).2.2.2.2.2.2.2.1, (b.2.2.2.2 i).2.2.2.2.2.2.2.2.1, (b.2.2.2.2 i).2.2.2.2.2.2.2.2.2)))) (bd_setu (G := G) (a := a) (h := b.1) (n := b.2.1) (xs := b.2.2.1) (ys := b.2.2.2.1) (T := b.2.2.2.2) (f := (u, (b.2.2.2.2 i).2.1, (b.2.2.2.2 i).2.2.1, (b.2.2.2.2 i).2.2.2.1, (b.2.2.2.2 i).2.2.2.2.1, (b.2.2.2.2 i).2.2.2.2.2.1, (b.2.2.2.2 i).2.2.2.2.2.2.1, (b.2.2.2.2 i).2.2.2.2.2.2.2.1, (b.2.2.2.2 i).2.2.2.2.2.2.2.2.1, (b.2.2.2.2 i).2.2.2.2.2.2.2.2.2)) (f' := (u, v, (b.2.2.2.2 i).2.2.1, (b.2.2.2.2 i).2.2.2.1, (b.2.2.2.2 i).2.2.2.2.1, (b.2.2.2.2 i).2.2.2.2.2.1, (b.2.2.2.2 i).2.2.2.2.2.2.1, (b.2.2.2.2 i).2.2.2.2.2.2.2.1, (b.2.2.2.2 i).2.2.2.2.2.2.2.2.1, (b.2.2.2.2 i).2.2.2.2.2.2.2.2.2)) (v := i) (by omega)) (fun H locs hw => ?_)
  refine lv_aload_n hx hb dX1_put_10 rfl (lv_at hl 0 rfl) ?_
  refine lv_iload_n hx hb dX1_put_11 rfl (lv_at hl 3 rfl) ?_
  refine r_put (ci := 1) (v := .int d) (ty := .int) (C := RX1) (T := TX1) (N := 10) hx hb hts wiX1_put_putq_X1 tyX1 tyX1_ok nmX1 hown hK hw (4 + i) (bd_atu (by omega)) rfl 2 (by decide) wmX1_put_putq_2 (fun _ h9 => h9) rfl (by decide +kernel) rfl rfl (Nat.le_of_ble_eq_true rfl) dX1_put_12 (ws' := wBd G a (b.1, b.2.1, b.2.2.1, b.2.2.2.1, (updB b.2.2.2.2 i (u, v, d, (b.2.2.2.2 i).2.2.2.1, (b.2.2.2.2 i).2.2.2.2.1, (b.2.2.2.2 i).2.2.2.2.2.1, (b.2.2.2.2 i).2.2.2.2.2.2.1, (b.2.2.2.2 i).2.2.2.2.2.2.2.1, (b.2.2.2.2 i).2.2.2.2.2.2.2.2.1, (b.2.2.2.2 i).2.2.2.2.2.2.2.2.2)))) (bd_setu (G := G) (a := a) (h := b.1) (n := b.2.1) (xs := b.2.2.1) (ys := b.2.2.2.1) (T := b.2.2.2.2) (f := (u, v, (b.2.2.2.2 i).2.2.1, (b.2.2.2.2 i).2.2.2.1, (b.2.2.2.2 i).2.2.2.2.1, (b.2.2.2.2 i).2.2.2.2.2.1, (b.2.2.2.2 i).2.2.2.2.2.2.1, (b.2.2.2.2 i).2.2.2.2.2.2.2.1, (b.2.2.2.2 i).2.2.2.2.2.2.2.2.1, (b.2.2.2.2 i).2.2.2.2.2.2.2.2.2)) (f' := (u, v, d, (b.2.2.2.2 i).2.2.2.1, (b.2.2.2.2 i).2.2.2.2.1, (b.2.2.2.2 i).2.2.2.2.2.1, (b.2.2.2.2 i).2.2.2.2.2.2.1, (b.2.2.2.2 i).2.2.2.2.2.2.2.1, (b.2.2.2.2 i).2.2.2.2.2.2.2.2.1, (b.2.2.2.2 i).2.2.2.2.2.2.2.2.2)) (v := i) (by omega)) (fun H locs hw => ?_)
  refine lv_aload_n hx hb dX1_put_15 rfl (lv_at hl 0 rfl) ?_
  refine lv_aload hx hb dX1_put_16 (lv_at hl 4 rfl) ?_
  refine r_put (ci := 1) (v := .ref (a.2.2.2.2 q)) (ty := .object "PartSketch$Block") (C := RX1) (T := TX1) (N := 10) hx hb hts wiX1_put_putq_X1 tyX1 tyX1_ok nmX1 hown hK hw (4 + i) (bd_atu (by omega)) rfl 3 (by decide) wmX1_put_putq_3 (fun _ h9 => h9) rfl (by decide +kernel) rfl rfl (Nat.le_of_ble_eq_true rfl) dX1_put_18 (ws' := wBd G a (b.1, b.2.1, b.2.2.1, b.2.2.2.1, (updB b.2.2.2.2 i (u, v, d, some q, (b.2.2.2.2 i).2.2.2.2.1, (b.2.2.2.2 i).2.2.2.2.2.1, (b.2.2.2.2 i).2.2.2.2.2.2.1, (b.2.2.2.2 i).2.2.2.2.2.2.2.1, (b.2.2.2.2 i).2.2.2.2.2.2.2.2.1, (b.2.2.2.2 i).2.2.2.2.2.2.2.2.2)))) (bd_setu (G := G) (a := a) (h := b.1) (n := b.2.1) (xs := b.2.2.1) (ys := b.2.2.2.1) (T := b.2.2.2.2) (f := (u, v, d, (b.2.2.2.2 i).2.2.2.1, (b.2.2.2.2 i).2.2.2.2.1, (b.2.2.2.2 i).2.2.2.2.2.1, (b.2.2.2.2 i).2.2.2.2.2.2.1, (b.2.2.2.2 i).2.2.2.2.2.2.2.1, (b.2.2.2.2 i).2.2.2.2.2.2.2.2.1, (b.2.2.2.2 i).2.2.2.2.2.2.2.2.2)) (f' := (u, v, d, some q, (b.2.2.2.2 i).2.2.2.2.1, (b.2.2.2.2 i).2.2.2.2.2.1, (b.2.2.2.2 i).2.2.2.2.2.2.1, (b.2.2.2.2 i).2.2.2.2.2.2.2.1, (b.2.2.2.2 i).2.2.2.2.2.2.2.2.1, (b.2.2.2.2 i).2.2.2.2.2.2.2.2.2)) (v := i) (by omega)) (fun H locs hw => ?_)
  exact m_vret hx hb hr hlocks hK hw (Nat.le_of_ble_eq_true rfl) (Nat.le_of_ble_eq_true rfl) dX1_put_21 rfl

theorem wiX1_liesIn_lies_X1 : ∀ w ∈ wsX10, w ∈ wsX1_liesIn := by decide +kernel
theorem wmX1_liesIn_lies_0 : Cond.fieldLink RX1 35 "PartSketch$Block" "left" "I" ∈ wsX1_liesIn := by decide +kernel
theorem wmX1_liesIn_lies_1 : Cond.fieldLink RX1 41 "PartSketch$Block" "right" "I" ∈ wsX1_liesIn := by decide +kernel
theorem wmX1_liesIn_lies_2 : Cond.fieldLink RX1 44 "PartSketch$Block" "low" "I" ∈ wsX1_liesIn := by decide +kernel
theorem wmX1_liesIn_lies_3 : Cond.fieldLink RX1 47 "PartSketch$Block" "high" "I" ∈ wsX1_liesIn := by decide +kernel
set_option maxHeartbeats 4000000 in
set_option maxRecDepth 100000 in
/-- Block.liesIn -/
theorem c_lies (l : Launch) (G : gT) (a : aBd) (b : tBd) (i : Nat) (j : Nat) (hi : i < 9) (hj : j < 9) (sz : Nat) : MI l yX1_liesIn wsX1_liesIn ({ frames := 0, cells := 0, slots := 0, locals := 0 }) G [.ref (a.2.2.2.2 i), .ref (a.2.2.2.2 j)] (wBd G a b) (wBd G a b) sz (bkLies (b.2.2.2.2 i) (b.2.2.2.2 j)) 0 0 := by
  refine m_of (Qc := fun A => (va_Qi (fun (r9 : Int32) (_ : Unit) => r9 = (bkLies (b.2.2.2.2 i) (b.2.2.2.2 j))) (fun _ t9 => wPost G A (wBd G a b) t9) A)) (cc := cX1_liesIn) (maxL := 2) (ret := (some .boolean)) (by decide) rfl (Nat.le_of_ble_eq_true rfl) ?_
  intro p e s m A below meth c H locs ls hx hb hr hts hown hlocks hin hml hK hA hw hl
  have hl : lv_has ls 2 [(0, .ref (a.2.2.2.2 i)), (1, .ref (a.2.2.2.2 j))] := hl
  refine lv_aload_n hx hb dX1_liesIn_0 rfl (lv_at hl 0 rfl) ?_
  refine r_get (ci := 1) (v := .int ((b.2.2.2.2 i).2.2.2.2.1)) (C := RX1) (T := TX1) (N := 10) hx hb hts wiX1_liesIn_lies_X1 hown hK hw (4 + i) (bd_at (by omega)) rfl 4 (by decide) wmX1_liesIn_lies_0 (fun _ h9 => h9) rfl dX1_liesIn_1 ?_
  refine lv_aload_n hx hb dX1_liesIn_4 rfl (lv_at hl 1 rfl) ?_
  refine r_get (ci := 1) (v := .int ((b.2.2.2.2 j).2.2.2.2.1)) (C := RX1) (T := TX1) (N := 10) hx hb hts wiX1_liesIn_lies_X1 hown hK hw (4 + j) (bd_at (by omega)) rfl 4 (by decide) wmX1_liesIn_lies_0 (fun _ h9 => h9) rfl dX1_liesIn_5 ?_
  refine lv_icmp_lt (tgt := 48) hx hb dX1_liesIn_8 (by decide) (fun c_8 => ?_) (fun c_8 => ?_)
  · refine lv_iconst (v := 0) hx hb dX1_liesIn_48 (by decide) ?_
    exact m_zret hx hb hr hlocks hK hw (Nat.le_of_ble_eq_true rfl) (Nat.le_of_ble_eq_true rfl) dX1_liesIn_49 (by rfl) (show (0 : Int32) = bkLies (b.2.2.2.2 i) (b.2.2.2.2 j) by first | rfl | (simp only [bkLies, if_pos c_8]; first | done | rfl)) rfl
  · refine lv_aload_n hx hb dX1_liesIn_11 rfl (lv_at hl 0 rfl) ?_
    refine r_get (ci := 1) (v := .int ((b.2.2.2.2 i).2.2.2.2.2.1)) (C := RX1) (T := TX1) (N := 10) hx hb hts wiX1_liesIn_lies_X1 hown hK hw (4 + i) (bd_at (by omega)) rfl 5 (by decide) wmX1_liesIn_lies_1 (fun _ h9 => h9) rfl dX1_liesIn_12 ?_
    refine lv_aload_n hx hb dX1_liesIn_15 rfl (lv_at hl 1 rfl) ?_
    refine r_get (ci := 1) (v := .int ((b.2.2.2.2 j).2.2.2.2.2.1)) (C := RX1) (T := TX1) (N := 10) hx hb hts wiX1_liesIn_lies_X1 hown hK hw (4 + j) (bd_at (by omega)) rfl 5 (by decide) wmX1_liesIn_lies_1 (fun _ h9 => h9) rfl dX1_liesIn_16 ?_
    refine lv_icmp_gt (tgt := 48) hx hb dX1_liesIn_19 (by decide) (fun c_19 => ?_) (fun c_19 => ?_)
    · refine lv_iconst (v := 0) hx hb dX1_liesIn_48 (by decide) ?_
      exact m_zret hx hb hr hlocks hK hw (Nat.le_of_ble_eq_true rfl) (Nat.le_of_ble_eq_true rfl) dX1_liesIn_49 (by rfl) (show (0 : Int32) = bkLies (b.2.2.2.2 i) (b.2.2.2.2 j) by first | rfl | (simp only [bkLies, if_neg c_8, if_pos c_19]; first | done | rfl)) rfl
    · refine lv_aload_n hx hb dX1_liesIn_22 rfl (lv_at hl 0 rfl) ?_
      refine r_get (ci := 1) (v := .int ((b.2.2.2.2 i).2.2.2.2.2.2.1)) (C := RX1) (T := TX1) (N := 10) hx hb hts wiX1_liesIn_lies_X1 hown hK hw (4 + i) (bd_at (by omega)) rfl 6 (by decide) wmX1_liesIn_lies_2 (fun _ h9 => h9) rfl dX1_liesIn_23 ?_
      refine lv_aload_n hx hb dX1_liesIn_26 rfl (lv_at hl 1 rfl) ?_
      refine r_get (ci := 1) (v := .int ((b.2.2.2.2 j).2.2.2.2.2.2.1)) (C := RX1) (T := TX1) (N := 10) hx hb hts wiX1_liesIn_lies_X1 hown hK hw (4 + j) (bd_at (by omega)) rfl 6 (by decide) wmX1_liesIn_lies_2 (fun _ h9 => h9) rfl dX1_liesIn_27 ?_
      refine lv_icmp_lt (tgt := 48) hx hb dX1_liesIn_30 (by decide) (fun c_30 => ?_) (fun c_30 => ?_)
      · refine lv_iconst (v := 0) hx hb dX1_liesIn_48 (by decide) ?_
        exact m_zret hx hb hr hlocks hK hw (Nat.le_of_ble_eq_true rfl) (Nat.le_of_ble_eq_true rfl) dX1_liesIn_49 (by rfl) (show (0 : Int32) = bkLies (b.2.2.2.2 i) (b.2.2.2.2 j) by first | rfl | (simp only [bkLies, if_neg c_8, if_neg c_19, if_pos c_30]; first | done | rfl)) rfl
      · refine lv_aload_n hx hb dX1_liesIn_33 rfl (lv_at hl 0 rfl) ?_
        refine r_get (ci := 1) (v := .int ((b.2.2.2.2 i).2.2.2.2.2.2.2.1)) (C := RX1) (T := TX1) (N := 10) hx hb hts wiX1_liesIn_lies_X1 hown hK hw (4 + i) (bd_at (by omega)) rfl 7 (by decide) wmX1_liesIn_lies_3 (fun _ h9 => h9) rfl dX1_liesIn_34 ?_
        refine lv_aload_n hx hb dX1_liesIn_37 rfl (lv_at hl 1 rfl) ?_
        refine r_get (ci := 1) (v := .int ((b.2.2.2.2 j).2.2.2.2.2.2.2.1)) (C := RX1) (T := TX1) (N := 10) hx hb hts wiX1_liesIn_lies_X1 hown hK hw (4 + j) (bd_at (by omega)) rfl 7 (by decide) wmX1_liesIn_lies_3 (fun _ h9 => h9) rfl dX1_liesIn_38 ?_
        refine lv_icmp_gt (tgt := 48) hx hb dX1_liesIn_41 (by decide) (fun c_41 => ?_) (fun c_41 => ?_)
        · refine lv_iconst (v := 0) hx hb dX1_liesIn_48 (by decide) ?_
          exact m_zret hx hb hr hlocks hK hw (Nat.le_of_ble_eq_true rfl) (Nat.le_of_ble_eq_true rfl) dX1_liesIn_49 (by rfl) (show (0 : Int32) = bkLies (b.2.2.2.2 i) (b.2.2.2.2 j) by first | rfl | (simp only [bkLies, if_neg c_8, if_neg c_19, if_neg c_30, if_pos c_41]; first | done | rfl)) rfl
        · refine lv_iconst (v := 1) hx hb dX1_liesIn_44 (by decide) ?_
          refine lv_goto (tgt := 49) hx hb dX1_liesIn_45 (by decide) ?_
          exact m_zret hx hb hr hlocks hK hw (Nat.le_of_ble_eq_true rfl) (Nat.le_of_ble_eq_true rfl) dX1_liesIn_49 (by rfl) (show (1 : Int32) = bkLies (b.2.2.2.2 i) (b.2.2.2.2 j) by first | rfl | (simp only [bkLies, if_neg c_8, if_neg c_19, if_neg c_30, if_neg c_41]; first | done | rfl)) rfl

theorem wiX1_cells_cells_X1 : ∀ w ∈ wsX10, w ∈ wsX1_cells := by decide +kernel
theorem wmX1_cells_cells_0 : Cond.fieldLink RX1 41 "PartSketch$Block" "right" "I" ∈ wsX1_cells := by decide +kernel
theorem wmX1_cells_cells_1 : Cond.fieldLink RX1 35 "PartSketch$Block" "left" "I" ∈ wsX1_cells := by decide +kernel
theorem wmX1_cells_cells_2 : Cond.fieldLink RX1 47 "PartSketch$Block" "high" "I" ∈ wsX1_cells := by decide +kernel
theorem wmX1_cells_cells_3 : Cond.fieldLink RX1 44 "PartSketch$Block" "low" "I" ∈ wsX1_cells := by decide +kernel
theorem wmX1_cells_cells_4 : Cond.fieldLink RX1 16 "PartSketch$Block" "depth" "I" ∈ wsX1_cells := by decide +kernel
set_option maxHeartbeats 4000000 in
set_option maxRecDepth 100000 in
/-- Block.cells -/
theorem c_cells (l : Launch) (G : gT) (a : aBd) (b : tBd) (i : Nat) (hi : i < 9) (sz : Nat) : MI l yX1_cells wsX1_cells ({ frames := 0, cells := 0, slots := 0, locals := 0 }) G [.ref (a.2.2.2.2 i)] (wBd G a b) (wBd G a b) sz (bkCells (b.2.2.2.2 i)) 0 0 := by
  refine m_of (Qc := fun A => (va_Qi (fun (r9 : Int32) (_ : Unit) => r9 = (bkCells (b.2.2.2.2 i))) (fun _ t9 => wPost G A (wBd G a b) t9) A)) (cc := cX1_cells) (maxL := 1) (ret := (some .int)) (by decide) rfl (Nat.le_of_ble_eq_true rfl) ?_
  intro p e s m A below meth c H locs ls hx hb hr hts hown hlocks hin hml hK hA hw hl
  have hl : lv_has ls 1 [(0, .ref (a.2.2.2.2 i))] := hl
  refine lv_aload_n hx hb dX1_cells_0 rfl (lv_at hl 0 rfl) ?_
  refine r_get (ci := 1) (v := .int ((b.2.2.2.2 i).2.2.2.2.2.1)) (C := RX1) (T := TX1) (N := 10) hx hb hts wiX1_cells_cells_X1 hown hK hw (4 + i) (bd_at (by omega)) rfl 5 (by decide) wmX1_cells_cells_0 (fun _ h9 => h9) rfl dX1_cells_1 ?_
  refine lv_aload_n hx hb dX1_cells_4 rfl (lv_at hl 0 rfl) ?_
  refine r_get (ci := 1) (v := .int ((b.2.2.2.2 i).2.2.2.2.1)) (C := RX1) (T := TX1) (N := 10) hx hb hts wiX1_cells_cells_X1 hown hK hw (4 + i) (bd_at (by omega)) rfl 4 (by decide) wmX1_cells_cells_1 (fun _ h9 => h9) rfl dX1_cells_5 ?_
  refine lv_isub hx hb dX1_cells_8 ?_
  refine lv_aload_n hx hb dX1_cells_9 rfl (lv_at hl 0 rfl) ?_
  refine r_get (ci := 1) (v := .int ((b.2.2.2.2 i).2.2.2.2.2.2.2.1)) (C := RX1) (T := TX1) (N := 10) hx hb hts wiX1_cells_cells_X1 hown hK hw (4 + i) (bd_at (by omega)) rfl 7 (by decide) wmX1_cells_cells_2 (fun _ h9 => h9) rfl dX1_cells_10 ?_
  refine lv_aload_n hx hb dX1_cells_13 rfl (lv_at hl 0 rfl) ?_
  refine r_get (ci := 1) (v := .int ((b.2.2.2.2 i).2.2.2.2.2.2.1)) (C := RX1) (T := TX1) (N := 10) hx hb hts wiX1_cells_cells_X1 hown hK hw (4 + i) (bd_at (by omega)) rfl 6 (by decide) wmX1_cells_cells_3 (fun _ h9 => h9) rfl dX1_cells_14 ?_
  refine lv_isub hx hb dX1_cells_17 ?_
  refine lv_imul hx hb dX1_cells_18 ?_
  refine lv_aload_n hx hb dX1_cells_19 rfl (lv_at hl 0 rfl) ?_
  refine r_get (ci := 1) (v := .int ((b.2.2.2.2 i).2.2.1)) (C := RX1) (T := TX1) (N := 10) hx hb hts wiX1_cells_cells_X1 hown hK hw (4 + i) (bd_at (by omega)) rfl 2 (by decide) wmX1_cells_cells_4 (fun _ h9 => h9) rfl dX1_cells_20 ?_
  refine lv_imul hx hb dX1_cells_23 ?_
  exact m_iret hx hb hr hlocks hK hw (Nat.le_of_ble_eq_true rfl) (Nat.le_of_ble_eq_true rfl) dX1_cells_24 (show (((((b.2.2.2.2 i).2.2.2.2.2.1) - ((b.2.2.2.2 i).2.2.2.2.1)) * (((b.2.2.2.2 i).2.2.2.2.2.2.2.1) - ((b.2.2.2.2 i).2.2.2.2.2.2.1))) * ((b.2.2.2.2 i).2.2.1) : Int32) = bkCells (b.2.2.2.2 i) by first | rfl | (simp only []; first | done | rfl)) rfl

theorem wiX1_covers_covers_X1 : ∀ w ∈ wsX10, w ∈ wsX1_covers := by decide +kernel
theorem wmX1_covers_covers_0 : Cond.fieldLink RX1 35 "PartSketch$Block" "left" "I" ∈ wsX1_covers := by decide +kernel
theorem wmX1_covers_covers_1 : Cond.fieldLink RX1 41 "PartSketch$Block" "right" "I" ∈ wsX1_covers := by decide +kernel
theorem wmX1_covers_covers_2 : Cond.fieldLink RX1 44 "PartSketch$Block" "low" "I" ∈ wsX1_covers := by decide +kernel
theorem wmX1_covers_covers_3 : Cond.fieldLink RX1 47 "PartSketch$Block" "high" "I" ∈ wsX1_covers := by decide +kernel
set_option maxHeartbeats 4000000 in
set_option maxRecDepth 100000 in
/-- Block.covers -/
theorem c_covers (l : Launch) (G : gT) (a : aBd) (b : tBd) (i : Nat) (u : Int32) (v : Int32) (hi : i < 9) (sz : Nat) : MI l yX1_covers wsX1_covers ({ frames := 0, cells := 0, slots := 0, locals := 0 }) G [.ref (a.2.2.2.2 i), .int u, .int v] (wBd G a b) (wBd G a b) sz (bkCovers (b.2.2.2.2 i) u v) 0 0 := by
  refine m_of (Qc := fun A => (va_Qi (fun (r9 : Int32) (_ : Unit) => r9 = (bkCovers (b.2.2.2.2 i) u v)) (fun _ t9 => wPost G A (wBd G a b) t9) A)) (cc := cX1_covers) (maxL := 3) (ret := (some .boolean)) (by decide) rfl (Nat.le_of_ble_eq_true rfl) ?_
  intro p e s m A below meth c H locs ls hx hb hr hts hown hlocks hin hml hK hA hw hl
  have hl : lv_has ls 3 [(0, .ref (a.2.2.2.2 i)), (1, .int u), (2, .int v)] := hl
  refine lv_aload_n hx hb dX1_covers_0 rfl (lv_at hl 0 rfl) ?_
  refine r_get (ci := 1) (v := .int ((b.2.2.2.2 i).2.2.2.2.1)) (C := RX1) (T := TX1) (N := 10) hx hb hts wiX1_covers_covers_X1 hown hK hw (4 + i) (bd_at (by omega)) rfl 4 (by decide) wmX1_covers_covers_0 (fun _ h9 => h9) rfl dX1_covers_1 ?_
  refine lv_iload_n hx hb dX1_covers_4 rfl (lv_at hl 1 rfl) ?_
  refine lv_icmp_gt (tgt := 36) hx hb dX1_covers_5 (by decide) (fun c_5 => ?_) (fun c_5 => ?_)
  · refine lv_iconst (v := 0) hx hb dX1_covers_36 (by decide) ?_
    exact m_zret hx hb hr hlocks hK hw (Nat.le_of_ble_eq_true rfl) (Nat.le_of_ble_eq_true rfl) dX1_covers_37 (by rfl) (show (0 : Int32) = bkCovers (b.2.2.2.2 i) u v by first | rfl | (simp only [bkCovers, if_pos c_5]; first | done | rfl)) rfl
  · refine lv_iload_n hx hb dX1_covers_8 rfl (lv_at hl 1 rfl) ?_
    refine lv_aload_n hx hb dX1_covers_9 rfl (lv_at hl 0 rfl) ?_
    refine r_get (ci := 1) (v := .int ((b.2.2.2.2 i).2.2.2.2.2.1)) (C := RX1) (T := TX1) (N := 10) hx hb hts wiX1_covers_covers_X1 hown hK hw (4 + i) (bd_at (by omega)) rfl 5 (by decide) wmX1_covers_covers_1 (fun _ h9 => h9) rfl dX1_covers_10 ?_
    refine lv_icmp_ge (tgt := 36) hx hb dX1_covers_13 (by decide) (fun c_13 => ?_) (fun c_13 => ?_)
    · refine lv_iconst (v := 0) hx hb dX1_covers_36 (by decide) ?_
      exact m_zret hx hb hr hlocks hK hw (Nat.le_of_ble_eq_true rfl) (Nat.le_of_ble_eq_true rfl) dX1_covers_37 (by rfl) (show (0 : Int32) = bkCovers (b.2.2.2.2 i) u v by first | rfl | (simp only [bkCovers, if_neg c_5, if_pos c_13]; first | done | rfl)) rfl
    · refine lv_aload_n hx hb dX1_covers_16 rfl (lv_at hl 0 rfl) ?_
      refine r_get (ci := 1) (v := .int ((b.2.2.2.2 i).2.2.2.2.2.2.1)) (C := RX1) (T := TX1) (N := 10) hx hb hts wiX1_covers_covers_X1 hown hK hw (4 + i) (bd_at (by omega)) rfl 6 (by decide) wmX1_covers_covers_2 (fun _ h9 => h9) rfl dX1_covers_17 ?_
      refine lv_iload_n hx hb dX1_covers_20 rfl (lv_at hl 2 rfl) ?_
      refine lv_icmp_gt (tgt := 36) hx hb dX1_covers_21 (by decide) (fun c_21 => ?_) (fun c_21 => ?_)
      · refine lv_iconst (v := 0) hx hb dX1_covers_36 (by decide) ?_
        exact m_zret hx hb hr hlocks hK hw (Nat.le_of_ble_eq_true rfl) (Nat.le_of_ble_eq_true rfl) dX1_covers_37 (by rfl) (show (0 : Int32) = bkCovers (b.2.2.2.2 i) u v by first | rfl | (simp only [bkCovers, if_neg c_5, if_neg c_13, if_pos c_21]; first | done | rfl)) rfl
      · refine lv_iload_n hx hb dX1_covers_24 rfl (lv_at hl 2 rfl) ?_
        refine lv_aload_n hx hb dX1_covers_25 rfl (lv_at hl 0 rfl) ?_
        refine r_get (ci := 1) (v := .int ((b.2.2.2.2 i).2.2.2.2.2.2.2.1)) (C := RX1) (T := TX1) (N := 10) hx hb hts wiX1_covers_covers_X1 hown hK hw (4 + i) (bd_at (by omega)) rfl 7 (by decide) wmX1_covers_covers_3 (fun _ h9 => h9) rfl dX1_covers_26 ?_
        refine lv_icmp_ge (tgt := 36) hx hb dX1_covers_29 (by decide) (fun c_29 => ?_) (fun c_29 => ?_)
        · refine lv_iconst (v := 0) hx hb dX1_covers_36 (by decide) ?_
          exact m_zret hx hb hr hlocks hK hw (Nat.le_of_ble_eq_true rfl) (Nat.le_of_ble_eq_true rfl) dX1_covers_37 (by rfl) (show (0 : Int32) = bkCovers (b.2.2.2.2 i) u v by first | rfl | (simp only [bkCovers, if_neg c_5, if_neg c_13, if_neg c_21, if_pos c_29]; first | done | rfl)) rfl
        · refine lv_iconst (v := 1) hx hb dX1_covers_32 (by decide) ?_
          refine lv_goto (tgt := 37) hx hb dX1_covers_33 (by decide) ?_
          exact m_zret hx hb hr hlocks hK hw (Nat.le_of_ble_eq_true rfl) (Nat.le_of_ble_eq_true rfl) dX1_covers_37 (by rfl) (show (1 : Int32) = bkCovers (b.2.2.2.2 i) u v by first | rfl | (simp only [bkCovers, if_neg c_5, if_neg c_13, if_neg c_21, if_neg c_29]; first | done | rfl)) rfl

theorem wiX1_layers_layers_X1 : ∀ w ∈ wsX10, w ∈ wsX1_layers := by decide +kernel
theorem wmX1_layers_layers_0 : Cond.fieldLink RX1 16 "PartSketch$Block" "depth" "I" ∈ wsX1_layers := by decide +kernel
theorem wmX1_layers_layers_1 : Cond.fieldLink RX1 50 "PartSketch$Block" "bottom" "I" ∈ wsX1_layers := by decide +kernel
set_option maxHeartbeats 4000000 in
set_option maxRecDepth 100000 in
/-- Block.layers -/
theorem c_layers (l : Launch) (G : gT) (a : aBd) (b : tBd) (i : Nat) (hi : i < 9) (sz : Nat) : ML l yX1_layers wsX1_layers ({ frames := 0, cells := 0, slots := 0, locals := 0 }) G [.ref (a.2.2.2.2 i)] (wBd G a b) (wBd G a b) sz (bkLayers (b.2.2.2.2 i)) 0 0 := by
  refine m_of (Qc := fun A => (va_Ql (fun (r9 : Int64) (_ : Unit) => r9 = (bkLayers (b.2.2.2.2 i))) (fun _ t9 => wPost G A (wBd G a b) t9) A)) (cc := cX1_layers) (maxL := 1) (ret := (some .long)) (by decide) rfl (Nat.le_of_ble_eq_true rfl) ?_
  intro p e s m A below meth c H locs ls hx hb hr hts hown hlocks hin hml hK hA hw hl
  have hl : lv_has ls 1 [(0, .ref (a.2.2.2.2 i))] := hl
  refine lv_lconst (v := 1) hx hb dX1_layers_0 (by decide) ?_
  refine lv_aload_n hx hb dX1_layers_1 rfl (lv_at hl 0 rfl) ?_
  refine r_get (ci := 1) (v := .int ((b.2.2.2.2 i).2.2.1)) (C := RX1) (T := TX1) (N := 10) hx hb hts wiX1_layers_layers_X1 hown hK hw (4 + i) (bd_at (by omega)) rfl 2 (by decide) wmX1_layers_layers_0 (fun _ h9 => h9) rfl dX1_layers_2 ?_
  refine lv_lshl (v := 1 <<< (((b.2.2.2.2 i).2.2.1).toInt64 &&& 63)) hx hb dX1_layers_5 rfl ?_
  refine lv_lconst (v := 1) hx hb dX1_layers_6 (by decide) ?_
  refine lv_lsub hx hb dX1_layers_7 ?_
  refine lv_aload_n hx hb dX1_layers_8 rfl (lv_at hl 0 rfl) ?_
  refine r_get (ci := 1) (v := .int ((b.2.2.2.2 i).2.2.2.2.2.2.2.2.1)) (C := RX1) (T := TX1) (N := 10) hx hb hts wiX1_layers_layers_X1 hown hK hw (4 + i) (bd_at (by omega)) rfl 8 (by decide) wmX1_layers_layers_1 (fun _ h9 => h9) rfl dX1_layers_9 ?_
  refine lv_aload_n hx hb dX1_layers_12 rfl (lv_at hl 0 rfl) ?_
  refine r_get (ci := 1) (v := .int ((b.2.2.2.2 i).2.2.1)) (C := RX1) (T := TX1) (N := 10) hx hb hts wiX1_layers_layers_X1 hown hK hw (4 + i) (bd_at (by omega)) rfl 2 (by decide) wmX1_layers_layers_0 (fun _ h9 => h9) rfl dX1_layers_13 ?_
  refine lv_isub hx hb dX1_layers_16 ?_
  refine lv_lshl (v := ((1 <<< (((b.2.2.2.2 i).2.2.1).toInt64 &&& 63)) - 1) <<< ((((b.2.2.2.2 i).2.2.2.2.2.2.2.2.1) - ((b.2.2.2.2 i).2.2.1)).toInt64 &&& 63)) hx hb dX1_layers_17 rfl ?_
  exact m_lret hx hb hr hlocks hK hw (Nat.le_of_ble_eq_true rfl) (Nat.le_of_ble_eq_true rfl) dX1_layers_18 (show (((1 <<< (((b.2.2.2.2 i).2.2.1).toInt64 &&& 63)) - 1) <<< ((((b.2.2.2.2 i).2.2.2.2.2.2.2.2.1) - ((b.2.2.2.2 i).2.2.1)).toInt64 &&& 63) : Int64) = bkLayers (b.2.2.2.2 i) by first | rfl | (simp only []; first | done | rfl)) rfl

theorem wiX1_measure_meas0_X1 : ∀ w ∈ wsX10, w ∈ wsX1_measure := by decide +kernel
theorem wmX1_measure_meas0_0 : Cond.fieldLink RX1 7 "PartSketch$Block" "one" "I" ∈ wsX1_measure := by decide +kernel
theorem wmX1_measure_meas0_1 : Cond.fieldLink RX1 13 "PartSketch$Block" "other" "I" ∈ wsX1_measure := by decide +kernel
theorem wmX1_measure_meas0_2 : Cond.methodLink RX1 29 Lib.Math.min.name ∈ wsX1_measure := by decide +kernel
theorem wmX1_measure_meas0_3 : Cond.static Lib.Math.min.name ∈ wsX1_measure := by decide +kernel
theorem wmX1_measure_meas0_4 : Cond.initialized "java/lang/Math" ∈ wsX1_measure := by decide +kernel
theorem wmX1_measure_meas0_5 : Cond.code Lib.Math.min.name Lib.Math.min.code 2 (some .int) ∈ wsX1_measure := by decide +kernel
theorem wmX1_measure_meas0_6 : Cond.fieldLink RX1 35 "PartSketch$Block" "left" "I" ∈ wsX1_measure := by decide +kernel
theorem wmX1_measure_meas0_7 : Cond.methodLink RX1 38 Lib.Math.max.name ∈ wsX1_measure := by decide +kernel
theorem wmX1_measure_meas0_8 : Cond.static Lib.Math.max.name ∈ wsX1_measure := by decide +kernel
theorem wmX1_measure_meas0_9 : Cond.code Lib.Math.max.name Lib.Math.max.code 2 (some .int) ∈ wsX1_measure := by decide +kernel
theorem wmX1_measure_meas0_10 : Cond.fieldLink RX1 41 "PartSketch$Block" "right" "I" ∈ wsX1_measure := by decide +kernel
theorem wmX1_measure_meas0_11 : Cond.fieldLink RX1 44 "PartSketch$Block" "low" "I" ∈ wsX1_measure := by decide +kernel
theorem wmX1_measure_meas0_12 : Cond.fieldLink RX1 47 "PartSketch$Block" "high" "I" ∈ wsX1_measure := by decide +kernel
theorem wmX1_measure_meas0_13 : Cond.fieldLink RX1 19 "PartSketch$Block" "outer" "LPartSketch$Block;" ∈ wsX1_measure := by decide +kernel
theorem wmX1_measure_meas0_14 : Cond.fieldLink RX1 50 "PartSketch$Block" "bottom" "I" ∈ wsX1_measure := by decide +kernel
theorem wmX1_measure_meas0_15 : Cond.fieldLink RX1 53 "PartSketch$Block" "failing" "Z" ∈ wsX1_measure := by decide +kernel
set_option maxHeartbeats 4000000 in
set_option maxRecDepth 100000 in
/-- Block.measure, the base -/
theorem c_meas0 (l : Launch) (G : gT) (ax : aAx) (x : tAx) (ay : aAx) (y : tAx) (a : aBd) (b : tBd) (i : Nat) (h : Int32) (hi : i < 9) (h1 : (b.2.2.2.2 i).1 ≤ 15) (h2 : (b.2.2.2.2 i).2.1 ≤ 15) (ho : (b.2.2.2.2 i).2.2.2.1 = none) (sz : Nat) : MV l yX1_measure wsX1_measure ({ frames := 1, cells := 0, slots := 0, locals := 24 }) G [.ref (a.2.2.2.2 i), .ref ax.1, .ref ay.1, .int h] (wAx G ax x ++ (wAx G ay y ++ (wBd G a b))) (wAx G ax x ++ (wAx G ay y ++ (wBd G a (b.1, b.2.1, b.2.2.1, b.2.2.2.1, (updB b.2.2.2.2 i (bkMeas0 x y (b.2.2.2.2 i))))))) sz 0 0 := by
  refine m_of (Qc := fun A => (va_Qv (fun (_ : Unit) => True) (fun _ t9 => wPost G A (wAx G ax x ++ (wAx G ay y ++ (wBd G a (b.1, b.2.1, b.2.2.1, b.2.2.2.1, (updB b.2.2.2.2 i (bkMeas0 x y (b.2.2.2.2 i))))))) t9) A)) (cc := cX1_measure) (maxL := 5) (ret := none) (by decide) rfl (Nat.le_of_ble_eq_true rfl) ?_
  intro p e s m A below meth c H locs ls hx hb hr hts hown hlocks hin hml hK hA hw hl
  have hl : lv_has ls 5 [(0, .ref (a.2.2.2.2 i)), (1, .ref ax.1), (2, .ref ay.1), (3, .int h)] := hl
  refine lv_aload_n hx hb dX1_measure_0 rfl (lv_at hl 0 rfl) ?_
  refine lv_aload_n hx hb dX1_measure_1 rfl (lv_at hl 1 rfl) ?_
  refine lv_aload_n hx hb dX1_measure_2 rfl (lv_at hl 0 rfl) ?_
  refine r_get (ci := 1) (v := .int (nI ((b.2.2.2.2 i).1))) (C := RX1) (T := TX1) (N := 10) hx hb hts wiX1_measure_meas0_X1 hown hK hw (12 + i) ((at_skip (n := 4) (j := 8 + i) rfl (by omega)).trans ((at_skip (n := 4) (j := 4 + i) rfl (by omega)).trans (bd_at (by omega)))) rfl 0 (by decide) wmX1_measure_meas0_0 (fun _ h9 => h9) rfl dX1_measure_3 ?_
  have hwc : wW G A s.heap (([] : va_W) ++ ((wAx G ax x) ++ (wAx G ay y ++ (wBd G a b)))) H locs := hw
  refine r_calli (res := (axPl x ((b.2.2.2.2 i).1))) (u := ([] : va_W)) (w := wAx G ax x) (v := wAx G ay y ++ (wBd G a b)) (va_runV (As := [.int (nI ((b.2.2.2.2 i).1))]) (rest := [.ref (a.2.2.2.2 i)]) ⟨hx, hb, hml, hown, hts⟩ (c_placeOf l G ax x ((b.2.2.2.2 i).1) (by first | assumption | omega | decide) H.size) (cwV 1 hts gX1_measure_X0_placeOf rfl rfl rfl (by decide +kernel) ⟨Nat.le_of_ble_eq_true rfl, Nat.le_of_ble_eq_true rfl⟩) (r_preV (ci := 0) (q0 := 0) hK hwc rfl rfl rfl) rfl rfl hl.1 rfl (lv_room (Nat.le_of_ble_eq_true rfl)) dX1_measure_6 ⟨Nat.le_of_ble_eq_true rfl, Nat.le_of_ble_eq_true rfl⟩) hwc hA rfl rfl (fun H locs hw => ?_)
  have hw : wW G A s.heap (wAx G ax x ++ (wAx G ay y ++ (wBd G a b))) H locs := hw
  refine lv_aload_n hx hb dX1_measure_9 rfl (lv_at hl 1 rfl) ?_
  refine lv_aload_n hx hb dX1_measure_10 rfl (lv_at hl 0 rfl) ?_
  refine r_get (ci := 1) (v := .int (nI ((b.2.2.2.2 i).2.1))) (C := RX1) (T := TX1) (N := 10) hx hb hts wiX1_measure_meas0_X1 hown hK hw (12 + i) ((at_skip (n := 4) (j := 8 + i) rfl (by omega)).trans ((at_skip (n := 4) (j := 4 + i) rfl (by omega)).trans (bd_at (by omega)))) rfl 1 (by decide) wmX1_measure_meas0_1 (fun _ h9 => h9) rfl dX1_measure_11 ?_
  have hwc : wW G A s.heap (([] : va_W) ++ ((wAx G ax x) ++ (wAx G ay y ++ (wBd G a b)))) H locs := hw
  refine r_calli (res := (axPl x ((b.2.2.2.2 i).2.1))) (u := ([] : va_W)) (w := wAx G ax x) (v := wAx G ay y ++ (wBd G a b)) (va_runV (As := [.int (nI ((b.2.2.2.2 i).2.1))]) (rest := [.int (axPl x ((b.2.2.2.2 i).1)), .ref (a.2.2.2.2 i)]) ⟨hx, hb, hml, hown, hts⟩ (c_placeOf l G ax x ((b.2.2.2.2 i).2.1) (by first | assumption | omega | decide) H.size) (cwV 1 hts gX1_measure_X0_placeOf rfl rfl rfl (by decide +kernel) ⟨Nat.le_of_ble_eq_true rfl, Nat.le_of_ble_eq_true rfl⟩) (r_preV (ci := 0) (q0 := 0) hK hwc rfl rfl rfl) rfl rfl hl.1 rfl (lv_room (Nat.le_of_ble_eq_true rfl)) dX1_measure_14 ⟨Nat.le_of_ble_eq_true rfl, Nat.le_of_ble_eq_true rfl⟩) hwc hA rfl rfl (fun H locs hw => ?_)
  have hw : wW G A s.heap (wAx G ax x ++ (wAx G ay y ++ (wBd G a b))) H locs := hw
  refine va_mmin hx hb (hml.trans hl.1.symm) hown (hts _ wmX1_measure_meas0_2) (hts _ wmX1_measure_meas0_3) (hts _ wmX1_measure_meas0_4) (hts _ wmX1_measure_meas0_5) (Nat.le_of_ble_eq_true rfl) (Nat.le_of_ble_eq_true rfl) (Nat.le_of_ble_eq_true rfl) (Nat.le_of_ble_eq_true rfl) dX1_measure_17 ?_
  refine r_top (y := iMin (axPl x ((b.2.2.2.2 i).1)) (axPl x ((b.2.2.2.2 i).2.1))) rfl ?_
  refine r_put (ci := 1) (v := .int (iMin (axPl x ((b.2.2.2.2 i).1)) (axPl x ((b.2.2.2.2 i).2.1)))) (ty := .int) (C := RX1) (T := TX1) (N := 10) hx hb hts wiX1_measure_meas0_X1 tyX1 tyX1_ok nmX1 hown hK hw (12 + i) ((at_skip (n := 4) (j := 8 + i) rfl (by omega)).trans ((at_skip (n := 4) (j := 4 + i) rfl (by omega)).trans (bd_at (by omega)))) rfl 4 (by decide) wmX1_measure_meas0_6 (fun _ h9 => h9) rfl (by decide +kernel) rfl rfl (Nat.le_of_ble_eq_true rfl) dX1_measure_20 (ws' := wAx G ax x ++ (wAx G ay y ++ (wBd G a (b.1, b.2.1, b.2.2.1, b.2.2.2.1, (updB b.2.2.2.2 i ((b.2.2.2.2 i).1, (b.2.2.2.2 i).2.1, (b.2.2.2.2 i).2.2.1, (b.2.2.2.2 i).2.2.2.1, iMin (axPl x ((b.2.2.2.2 i).1)) (axPl x ((b.2.2.2.2 i).2.1)), (b.2.2.2.2 i).2.2.2.2.2.1, (b.2.2.2.2 i).2.2.2.2.2.2.1, (b.2.2.2.2 i).2.2.2.2.2.2.2.1, (b.2.2.2.2 i).2.2.2.2.2.2.2.2.1, (b.2.2.2.2 i).2.2.2.2.2.2.2.2.2)))))) ((set_skip (n := 4) (j := 8 + i) rfl (by omega)).trans (congrArg (fun z => _ ++ z) ((set_skip (n := 4) (j := 4 + i) rfl (by omega)).trans (congrArg (fun z => _ ++ z) (bd_set (G := G) (a := a) (b := b) (f := ((b.2.2.2.2 i).1, (b.2.2.2.2 i).2.1, (b.2.2.2.2 i).2.2.1, (b.2.2.2.2 i).2.2.2.1, iMin (axPl x ((b.2.2.2.2 i).1)) (axPl x ((b.2.2.2.2 i).2.1)), (b.2.2.2.2 i).2.2.2.2.2.1, (b.2.2.2.2 i).2.2.2.2.2.2.1, (b.2.2.2.2 i).2.2.2.2.2.2.2.1, (b.2.2.2.2 i).2.2.2.2.2.2.2.2.1, (b.2.2.2.2 i).2.2.2.2.2.2.2.2.2)) (v := i) (by omega)))))) (fun H locs hw => ?_)
  refine lv_aload_n hx hb dX1_measure_23 rfl (lv_at hl 0 rfl) ?_
  refine lv_aload_n hx hb dX1_measure_24 rfl (lv_at hl 1 rfl) ?_
  refine lv_aload_n hx hb dX1_measure_25 rfl (lv_at hl 0 rfl) ?_
  refine r_get (ci := 1) (v := .int (nI ((b.2.2.2.2 i).1))) (C := RX1) (T := TX1) (N := 10) hx hb hts wiX1_measure_meas0_X1 hown hK hw (12 + i) ((at_skip (n := 4) (j := 8 + i) rfl (by omega)).trans ((at_skip (n := 4) (j := 4 + i) rfl (by omega)).trans (bd_atu (by omega)))) rfl 0 (by decide) wmX1_measure_meas0_0 (fun _ h9 => h9) rfl dX1_measure_26 ?_
  have hwc : wW G A s.heap (([] : va_W) ++ ((wAx G ax x) ++ (wAx G ay y ++ (wBd G a (b.1, b.2.1, b.2.2.1, b.2.2.2.1, (updB b.2.2.2.2 i ((b.2.2.2.2 i).1, (b.2.2.2.2 i).2.1, (b.2.2.2.2 i).2.2.1, (b.2.2.2.2 i).2.2.2.1, iMin (axPl x ((b.2.2.2.2 i).1)) (axPl x ((b.2.2.2.2 i).2.1)), (b.2.2.2.2 i).2.2.2.2.2.1, (b.2.2.2.2 i).2.2.2.2.2.2.1, (b.2.2.2.2 i).2.2.2.2.2.2.2.1, (b.2.2.2.2 i).2.2.2.2.2.2.2.2.1, (b.2.2.2.2 i).2.2.2.2.2.2.2.2.2))))))) H locs := hw
  refine r_calli (res := (axPl x ((b.2.2.2.2 i).1))) (u := ([] : va_W)) (w := wAx G ax x) (v := wAx G ay y ++ (wBd G a (b.1, b.2.1, b.2.2.1, b.2.2.2.1, (updB b.2.2.2.2 i ((b.2.2.2.2 i).1, (b.2.2.2.2 i).2.1, (b.2.2.2.2 i).2.2.1, (b.2.2.2.2 i).2.2.2.1, iMin (axPl x ((b.2.2.2.2 i).1)) (axPl x ((b.2.2.2.2 i).2.1)), (b.2.2.2.2 i).2.2.2.2.2.1, (b.2.2.2.2 i).2.2.2.2.2.2.1, (b.2.2.2.2 i).2.2.2.2.2.2.2.1, (b.2.2.2.2 i).2.2.2.2.2.2.2.2.1, (b.2.2.2.2 i).2.2.2.2.2.2.2.2.2))))) (va_runV (As := [.int (nI ((b.2.2.2.2 i).1))]) (rest := [.ref (a.2.2.2.2 i)]) ⟨hx, hb, hml, hown, hts⟩ (c_placeOf l G ax x ((b.2.2.2.2 i).1) (by first | assumption | omega | decide) H.size) (cwV 1 hts gX1_measure_X0_placeOf rfl rfl rfl (by decide +kernel) ⟨Nat.le_of_ble_eq_true rfl, Nat.le_of_ble_eq_true rfl⟩) (r_preV (ci := 0) (q0 := 0) hK hwc rfl rfl rfl) rfl rfl hl.1 rfl (lv_room (Nat.le_of_ble_eq_true rfl)) dX1_measure_29 ⟨Nat.le_of_ble_eq_true rfl, Nat.le_of_ble_eq_true rfl⟩) hwc hA rfl rfl (fun H locs hw => ?_)
  have hw : wW G A s.heap (wAx G ax x ++ (wAx G ay y ++ (wBd G a (b.1, b.2.1, b.2.2.1, b.2.2.2.1, (updB b.2.2.2.2 i ((b.2.2.2.2 i).1, (b.2.2.2.2 i).2.1, (b.2.2.2.2 i).2.2.1, (b.2.2.2.2 i).2.2.2.1, iMin (axPl x ((b.2.2.2.2 i).1)) (axPl x ((b.2.2.2.2 i).2.1)), (b.2.2.2.2 i).2.2.2.2.2.1, (b.2.2.2.2 i).2.2.2.2.2.2.1, (b.2.2.2.2 i).2.2.2.2.2.2.2.1, (b.2.2.2.2 i).2.2.2.2.2.2.2.2.1, (b.2.2.2.2 i).2.2.2.2.2.2.2.2.2)))))) H locs := hw
  refine lv_aload_n hx hb dX1_measure_32 rfl (lv_at hl 1 rfl) ?_
  refine lv_aload_n hx hb dX1_measure_33 rfl (lv_at hl 0 rfl) ?_
  refine r_get (ci := 1) (v := .int (nI ((b.2.2.2.2 i).2.1))) (C := RX1) (T := TX1) (N := 10) hx hb hts wiX1_measure_meas0_X1 hown hK hw (12 + i) ((at_skip (n := 4) (j := 8 + i) rfl (by omega)).trans ((at_skip (n := 4) (j := 4 + i) rfl (by omega)).trans (bd_atu (by omega)))) rfl 1 (by decide) wmX1_measure_meas0_1 (fun _ h9 => h9) rfl dX1_measure_34 ?_
  have hwc : wW G A s.heap (([] : va_W) ++ ((wAx G ax x) ++ (wAx G ay y ++ (wBd G a (b.1, b.2.1, b.2.2.1, b.2.2.2.1, (updB b.2.2.2.2 i ((b.2.2.2.2 i).1, (b.2.2.2.2 i).2.1, (b.2.2.2.2 i).2.2.1, (b.2.2.2.2 i).2.2.2.1, iMin (axPl x ((b.2.2.2.2 i).1)) (axPl x ((b.2.2.2.2 i).2.1)), (b.2.2.2.2 i).2.2.2.2.2.1, (b.2.2.2.2 i).2.2.2.2.2.2.1, (b.2.2.2.2 i).2.2.2.2.2.2.2.1, (b.2.2.2.2 i).2.2.2.2.2.2.2.2.1, (b.2.2.2.2 i).2.2.2.2.2.2.2.2.2))))))) H locs := hw
  refine r_calli (res := (axPl x ((b.2.2.2.2 i).2.1))) (u := ([] : va_W)) (w := wAx G ax x) (v := wAx G ay y ++ (wBd G a (b.1, b.2.1, b.2.2.1, b.2.2.2.1, (updB b.2.2.2.2 i ((b.2.2.2.2 i).1, (b.2.2.2.2 i).2.1, (b.2.2.2.2 i).2.2.1, (b.2.2.2.2 i).2.2.2.1, iMin (axPl x ((b.2.2.2.2 i).1)) (axPl x ((b.2.2.2.2 i).2.1)), (b.2.2.2.2 i).2.2.2.2.2.1, (b.2.2.2.2 i).2.2.2.2.2.2.1, (b.2.2.2.2 i).2.2.2.2.2.2.2.1, (b.2.2.2.2 i).2.2.2.2.2.2.2.2.1, (b.2.2.2.2 i).2.2.2.2.2.2.2.2.2))))) (va_runV (As := [.int (nI ((b.2.2.2.2 i).2.1))]) (rest := [.int (axPl x ((b.2.2.2.2 i).1)), .ref (a.2.2.2.2 i)]) ⟨hx, hb, hml, hown, hts⟩ (c_placeOf l G ax x ((b.2.2.2.2 i).2.1) (by first | assumption | omega | decide) H.size) (cwV 1 hts gX1_measure_X0_placeOf rfl rfl rfl (by decide +kernel) ⟨Nat.le_of_ble_eq_true rfl, Nat.le_of_ble_eq_true rfl⟩) (r_preV (ci := 0) (q0 := 0) hK hwc rfl rfl rfl) rfl rfl hl.1 rfl (lv_room (Nat.le_of_ble_eq_true rfl)) dX1_measure_37 ⟨Nat.le_of_ble_eq_true rfl, Nat.le_of_ble_eq_true rfl⟩) hwc hA rfl rfl (fun H locs hw => ?_)
  have hw : wW G A s.heap (wAx G ax x ++ (wAx G ay y ++ (wBd G a (b.1, b.2.1, b.2.2.1, b.2.2.2.1, (updB b.2.2.2.2 i ((b.2.2.2.2 i).1, (b.2.2.2.2 i).2.1, (b.2.2.2.2 i).2.2.1, (b.2.2.2.2 i).2.2.2.1, iMin (axPl x ((b.2.2.2.2 i).1)) (axPl x ((b.2.2.2.2 i).2.1)), (b.2.2.2.2 i).2.2.2.2.2.1, (b.2.2.2.2 i).2.2.2.2.2.2.1, (b.2.2.2.2 i).2.2.2.2.2.2.2.1, (b.2.2.2.2 i).2.2.2.2.2.2.2.2.1, (b.2.2.2.2 i).2.2.2.2.2.2.2.2.2)))))) H locs := hw
  refine va_mmax hx hb (hml.trans hl.1.symm) hown (hts _ wmX1_measure_meas0_7) (hts _ wmX1_measure_meas0_8) (hts _ wmX1_measure_meas0_4) (hts _ wmX1_measure_meas0_9) (Nat.le_of_ble_eq_true rfl) (Nat.le_of_ble_eq_true rfl) (Nat.le_of_ble_eq_true rfl) (Nat.le_of_ble_eq_true rfl) dX1_measure_40 ?_
  refine r_top (y := iMax (axPl x ((b.2.2.2.2 i).1)) (axPl x ((b.2.2.2.2 i).2.1))) rfl ?_
  refine r_put (ci := 1) (v := .int (iMax (axPl x ((b.2.2.2.2 i).1)) (axPl x ((b.2.2.2.2 i).2.1)))) (ty := .int) (C := RX1) (T := TX1) (N := 10) hx hb hts wiX1_measure_meas0_X1 tyX1 tyX1_ok nmX1 hown hK hw (12 + i) ((at_skip (n := 4) (j := 8 + i) rfl (by omega)).trans ((at_skip (n := 4) (j := 4 + i) rfl (by omega)).trans (bd_atu (by omega)))) rfl 5 (by decide) wmX1_measure_meas0_10 (fun _ h9 => h9) rfl (by decide +kernel) rfl rfl (Nat.le_of_ble_eq_true rfl) dX1_measure_43 (ws' := wAx G ax x ++ (wAx G ay y ++ (wBd G a (b.1, b.2.1, b.2.2.1, b.2.2.2.1, (updB b.2.2.2.2 i ((b.2.2.2.2 i).1, (b.2.2.2.2 i).2.1, (b.2.2.2.2 i).2.2.1, (b.2.2.2.2 i).2.2.2.1, iMin (axPl x ((b.2.2.2.2 i).1)) (axPl x ((b.2.2.2.2 i).2.1)), iMax (axPl x ((b.2.2.2.2 i).1)) (axPl x ((b.2.2.2.2 i).2.1)), (b.2.2.2.2 i).2.2.2.2.2.2.1, (b.2.2.2.2 i).2.2.2.2.2.2.2.1, (b.2.2.2.2 i).2.2.2.2.2.2.2.2.1, (b.2.2.2.2 i).2.2.2.2.2.2.2.2.2)))))) ((set_skip (n := 4) (j := 8 + i) rfl (by omega)).trans (congrArg (fun z => _ ++ z) ((set_skip (n := 4) (j := 4 + i) rfl (by omega)).trans (congrArg (fun z => _ ++ z) (bd_setu (G := G) (a := a) (h := b.1) (n := b.2.1) (xs := b.2.2.1) (ys := b.2.2.2.1) (T := b.2.2.2.2) (f := ((b.2.2.2.2 i).1, (b.2.2.2.2 i).2.1, (b.2.2.2.2 i).2.2.1, (b.2.2.2.2 i).2.2.2.1, iMin (axPl x ((b.2.2.2.2 i).1)) (axPl x ((b.2.2.2.2 i).2.1)), (b.2.2.2.2 i).2.2.2.2.2.1, (b.2.2.2.2 i).2.2.2.2.2.2.1, (b.2.2.2.2 i).2.2.2.2.2.2.2.1, (b.2.2.2.2 i).2.2.2.2.2.2.2.2.1, (b.2.2.2.2 i).2.2.2.2.2.2.2.2.2)) (f' := ((b.2.2.2.2 i).1, (b.2.2.2.2 i).2.1, (b.2.2.2.2 i).2.2.1, (b.2.2.2.2 i).2.2.2.1, iMin (axPl x ((b.2.2.2.2 i).1)) (axPl x ((b.2.2.2.2 i).2.1)), iMax (axPl x ((b.2.2.2.2 i).1)) (axPl x ((b.2.2.2.2 i).2.1)), (b.2.2.2.2 i).2.2.2.2.2.2.1, (b.2.2.2.2 i).2.2.2.2.2.2.2.1, (b.2.2.2.2 i).2.2.2.2.2.2.2.2.1, (b.2.2.2.2 i).2.2.2.2.2.2.2.2.2)) (v := i) (by omega)))))) (fun H locs hw => ?_)
  refine lv_aload_n hx hb dX1_measure_46 rfl (lv_at hl 0 rfl) ?_
  refine lv_aload_n hx hb dX1_measure_47 rfl (lv_at hl 2 rfl) ?_
  refine lv_aload_n hx hb dX1_measure_48 rfl (lv_at hl 0 rfl) ?_
  refine r_get (ci := 1) (v := .int (nI ((b.2.2.2.2 i).1))) (C := RX1) (T := TX1) (N := 10) hx hb hts wiX1_measure_meas0_X1 hown hK hw (12 + i) ((at_skip (n := 4) (j := 8 + i) rfl (by omega)).trans ((at_skip (n := 4) (j := 4 + i) rfl (by omega)).trans (bd_atu (by omega)))) rfl 0 (by decide) wmX1_measure_meas0_0 (fun _ h9 => h9) rfl dX1_measure_49 ?_
  have hwc : wW G A s.heap ((wAx G ax x) ++ ((wAx G ay y) ++ (wBd G a (b.1, b.2.1, b.2.2.1, b.2.2.2.1, (updB b.2.2.2.2 i ((b.2.2.2.2 i).1, (b.2.2.2.2 i).2.1, (b.2.2.2.2 i).2.2.1, (b.2.2.2.2 i).2.2.2.1, iMin (axPl x ((b.2.2.2.2 i).1)) (axPl x ((b.2.2.2.2 i).2.1)), iMax (axPl x ((b.2.2.2.2 i).1)) (axPl x ((b.2.2.2.2 i).2.1)), (b.2.2.2.2 i).2.2.2.2.2.2.1, (b.2.2.2.2 i).2.2.2.2.2.2.2.1, (b.2.2.2.2 i).2.2.2.2.2.2.2.2.1, (b.2.2.2.2 i).2.2.2.2.2.2.2.2.2)))))) H locs := hw
  refine r_calli (res := (axPl y ((b.2.2.2.2 i).1))) (u := wAx G ax x) (w := wAx G ay y) (v := wBd G a (b.1, b.2.1, b.2.2.1, b.2.2.2.1, (updB b.2.2.2.2 i ((b.2.2.2.2 i).1, (b.2.2.2.2 i).2.1, (b.2.2.2.2 i).2.2.1, (b.2.2.2.2 i).2.2.2.1, iMin (axPl x ((b.2.2.2.2 i).1)) (axPl x ((b.2.2.2.2 i).2.1)), iMax (axPl x ((b.2.2.2.2 i).1)) (axPl x ((b.2.2.2.2 i).2.1)), (b.2.2.2.2 i).2.2.2.2.2.2.1, (b.2.2.2.2 i).2.2.2.2.2.2.2.1, (b.2.2.2.2 i).2.2.2.2.2.2.2.2.1, (b.2.2.2.2 i).2.2.2.2.2.2.2.2.2)))) (va_runV (As := [.int (nI ((b.2.2.2.2 i).1))]) (rest := [.ref (a.2.2.2.2 i)]) ⟨hx, hb, hml, hown, hts⟩ (c_placeOf l G ay y ((b.2.2.2.2 i).1) (by first | assumption | omega | decide) H.size) (cwV 1 hts gX1_measure_X0_placeOf rfl rfl rfl (by decide +kernel) ⟨Nat.le_of_ble_eq_true rfl, Nat.le_of_ble_eq_true rfl⟩) (r_preV (ci := 0) (q0 := 4) hK hwc rfl rfl rfl) rfl rfl hl.1 rfl (lv_room (Nat.le_of_ble_eq_true rfl)) dX1_measure_52 ⟨Nat.le_of_ble_eq_true rfl, Nat.le_of_ble_eq_true rfl⟩) hwc hA rfl rfl (fun H locs hw => ?_)
  have hw : wW G A s.heap (wAx G ax x ++ (wAx G ay y ++ (wBd G a (b.1, b.2.1, b.2.2.1, b.2.2.2.1, (updB b.2.2.2.2 i ((b.2.2.2.2 i).1, (b.2.2.2.2 i).2.1, (b.2.2.2.2 i).2.2.1, (b.2.2.2.2 i).2.2.2.1, iMin (axPl x ((b.2.2.2.2 i).1)) (axPl x ((b.2.2.2.2 i).2.1)), iMax (axPl x ((b.2.2.2.2 i).1)) (axPl x ((b.2.2.2.2 i).2.1)), (b.2.2.2.2 i).2.2.2.2.2.2.1, (b.2.2.2.2 i).2.2.2.2.2.2.2.1, (b.2.2.2.2 i).2.2.2.2.2.2.2.2.1, (b.2.2.2.2 i).2.2.2.2.2.2.2.2.2)))))) H locs := hw
  refine lv_aload_n hx hb dX1_measure_55 rfl (lv_at hl 2 rfl) ?_
  refine lv_aload_n hx hb dX1_measure_56 rfl (lv_at hl 0 rfl) ?_
  refine r_get (ci := 1) (v := .int (nI ((b.2.2.2.2 i).2.1))) (C := RX1) (T := TX1) (N := 10) hx hb hts wiX1_measure_meas0_X1 hown hK hw (12 + i) ((at_skip (n := 4) (j := 8 + i) rfl (by omega)).trans ((at_skip (n := 4) (j := 4 + i) rfl (by omega)).trans (bd_atu (by omega)))) rfl 1 (by decide) wmX1_measure_meas0_1 (fun _ h9 => h9) rfl dX1_measure_57 ?_
  have hwc : wW G A s.heap ((wAx G ax x) ++ ((wAx G ay y) ++ (wBd G a (b.1, b.2.1, b.2.2.1, b.2.2.2.1, (updB b.2.2.2.2 i ((b.2.2.2.2 i).1, (b.2.2.2.2 i).2.1, (b.2.2.2.2 i).2.2.1, (b.2.2.2.2 i).2.2.2.1, iMin (axPl x ((b.2.2.2.2 i).1)) (axPl x ((b.2.2.2.2 i).2.1)), iMax (axPl x ((b.2.2.2.2 i).1)) (axPl x ((b.2.2.2.2 i).2.1)), (b.2.2.2.2 i).2.2.2.2.2.2.1, (b.2.2.2.2 i).2.2.2.2.2.2.2.1, (b.2.2.2.2 i).2.2.2.2.2.2.2.2.1, (b.2.2.2.2 i).2.2.2.2.2.2.2.2.2)))))) H locs := hw
  refine r_calli (res := (axPl y ((b.2.2.2.2 i).2.1))) (u := wAx G ax x) (w := wAx G ay y) (v := wBd G a (b.1, b.2.1, b.2.2.1, b.2.2.2.1, (updB b.2.2.2.2 i ((b.2.2.2.2 i).1, (b.2.2.2.2 i).2.1, (b.2.2.2.2 i).2.2.1, (b.2.2.2.2 i).2.2.2.1, iMin (axPl x ((b.2.2.2.2 i).1)) (axPl x ((b.2.2.2.2 i).2.1)), iMax (axPl x ((b.2.2.2.2 i).1)) (axPl x ((b.2.2.2.2 i).2.1)), (b.2.2.2.2 i).2.2.2.2.2.2.1, (b.2.2.2.2 i).2.2.2.2.2.2.2.1, (b.2.2.2.2 i).2.2.2.2.2.2.2.2.1, (b.2.2.2.2 i).2.2.2.2.2.2.2.2.2)))) (va_runV (As := [.int (nI ((b.2.2.2.2 i).2.1))]) (rest := [.int (axPl y ((b.2.2.2.2 i).1)), .ref (a.2.2.2.2 i)]) ⟨hx, hb, hml, hown, hts⟩ (c_placeOf l G ay y ((b.2.2.2.2 i).2.1) (by first | assumption | omega | decide) H.size) (cwV 1 hts gX1_measure_X0_placeOf rfl rfl rfl (by decide +kernel) ⟨Nat.le_of_ble_eq_true rfl, Nat.le_of_ble_eq_true rfl⟩) (r_preV (ci := 0) (q0 := 4) hK hwc rfl rfl rfl) rfl rfl hl.1 rfl (lv_room (Nat.le_of_ble_eq_true rfl)) dX1_measure_60 ⟨Nat.le_of_ble_eq_true rfl, Nat.le_of_ble_eq_true rfl⟩) hwc hA rfl rfl (fun H locs hw => ?_)
  have hw : wW G A s.heap (wAx G ax x ++ (wAx G ay y ++ (wBd G a (b.1, b.2.1, b.2.2.1, b.2.2.2.1, (updB b.2.2.2.2 i ((b.2.2.2.2 i).1, (b.2.2.2.2 i).2.1, (b.2.2.2.2 i).2.2.1, (b.2.2.2.2 i).2.2.2.1, iMin (axPl x ((b.2.2.2.2 i).1)) (axPl x ((b.2.2.2.2 i).2.1)), iMax (axPl x ((b.2.2.2.2 i).1)) (axPl x ((b.2.2.2.2 i).2.1)), (b.2.2.2.2 i).2.2.2.2.2.2.1, (b.2.2.2.2 i).2.2.2.2.2.2.2.1, (b.2.2.2.2 i).2.2.2.2.2.2.2.2.1, (b.2.2.2.2 i).2.2.2.2.2.2.2.2.2)))))) H locs := hw
  refine va_mmin hx hb (hml.trans hl.1.symm) hown (hts _ wmX1_measure_meas0_2) (hts _ wmX1_measure_meas0_3) (hts _ wmX1_measure_meas0_4) (hts _ wmX1_measure_meas0_5) (Nat.le_of_ble_eq_true rfl) (Nat.le_of_ble_eq_true rfl) (Nat.le_of_ble_eq_true rfl) (Nat.le_of_ble_eq_true rfl) dX1_measure_63 ?_
  refine r_top (y := iMin (axPl y ((b.2.2.2.2 i).1)) (axPl y ((b.2.2.2.2 i).2.1))) rfl ?_
  refine r_put (ci := 1) (v := .int (iMin (axPl y ((b.2.2.2.2 i).1)) (axPl y ((b.2.2.2.2 i).2.1)))) (ty := .int) (C := RX1) (T := TX1) (N := 10) hx hb hts wiX1_measure_meas0_X1 tyX1 tyX1_ok nmX1 hown hK hw (12 + i) ((at_skip (n := 4) (j := 8 + i) rfl (by omega)).trans ((at_skip (n := 4) (j := 4 + i) rfl (by omega)).trans (bd_atu (by omega)))) rfl 6 (by decide) wmX1_measure_meas0_11 (fun _ h9 => h9) rfl (by decide +kernel) rfl rfl (Nat.le_of_ble_eq_true rfl) dX1_measure_66 (ws' := wAx G ax x ++ (wAx G ay y ++ (wBd G a (b.1, b.2.1, b.2.2.1, b.2.2.2.1, (updB b.2.2.2.2 i ((b.2.2.2.2 i).1, (b.2.2.2.2 i).2.1, (b.2.2.2.2 i).2.2.1, (b.2.2.2.2 i).2.2.2.1, iMin (axPl x ((b.2.2.2.2 i).1)) (axPl x ((b.2.2.2.2 i).2.1)), iMax (axPl x ((b.2.2.2.2 i).1)) (axPl x ((b.2.2.2.2 i).2.1)), iMin (axPl y ((b.2.2.2.2 i).1)) (axPl y ((b.2.2.2.2 i).2.1)), (b.2.2.2.2 i).2.2.2.2.2.2.2.1, (b.2.2.2.2 i).2.2.2.2.2.2.2.2.1, (b.2.2.2.2 i).2.2.2.2.2.2.2.2.2)))))) ((set_skip (n := 4) (j := 8 + i) rfl (by omega)).trans (congrArg (fun z => _ ++ z) ((set_skip (n := 4) (j := 4 + i) rfl (by omega)).trans (congrArg (fun z => _ ++ z) (bd_setu (G := G) (a := a) (h := b.1) (n := b.2.1) (xs := b.2.2.1) (ys := b.2.2.2.1) (T := b.2.2.2.2) (f := ((b.2.2.2.2 i).1, (b.2.2.2.2 i).2.1, (b.2.2.2.2 i).2.2.1, (b.2.2.2.2 i).2.2.2.1, iMin (axPl x ((b.2.2.2.2 i).1)) (axPl x ((b.2.2.2.2 i).2.1)), iMax (axPl x ((b.2.2.2.2 i).1)) (axPl x ((b.2.2.2.2 i).2.1)), (b.2.2.2.2 i).2.2.2.2.2.2.1, (b.2.2.2.2 i).2.2.2.2.2.2.2.1, (b.2.2.2.2 i).2.2.2.2.2.2.2.2.1, (b.2.2.2.2 i).2.2.2.2.2.2.2.2.2)) (f' := ((b.2.2.2.2 i).1, (b.2.2.2.2 i).2.1, (b.2.2.2.2 i).2.2.1, (b.2.2.2.2 i).2.2.2.1, iMin (axPl x ((b.2.2.2.2 i).1)) (axPl x ((b.2.2.2.2 i).2.1)), iMax (axPl x ((b.2.2.2.2 i).1)) (axPl x ((b.2.2.2.2 i).2.1)), iMin (axPl y ((b.2.2.2.2 i).1)) (axPl y ((b.2.2.2.2 i).2.1)), (b.2.2.2.2 i).2.2.2.2.2.2.2.1, (b.2.2.2.2 i).2.2.2.2.2.2.2.2.1, (b.2.2.2.2 i).2.2.2.2.2.2.2.2.2)) (v := i) (by omega)))))) (fun H locs hw => ?_)
  refine lv_aload_n hx hb dX1_measure_69 rfl (lv_at hl 0 rfl) ?_
  refine lv_aload_n hx hb dX1_measure_70 rfl (lv_at hl 2 rfl) ?_
  refine lv_aload_n hx hb dX1_measure_71 rfl (lv_at hl 0 rfl) ?_
  refine r_get (ci := 1) (v := .int (nI ((b.2.2.2.2 i).1))) (C := RX1) (T := TX1) (N := 10) hx hb hts wiX1_measure_meas0_X1 hown hK hw (12 + i) ((at_skip (n := 4) (j := 8 + i) rfl (by omega)).trans ((at_skip (n := 4) (j := 4 + i) rfl (by omega)).trans (bd_atu (by omega)))) rfl 0 (by decide) wmX1_measure_meas0_0 (fun _ h9 => h9) rfl dX1_measure_72 ?_
  have hwc : wW G A s.heap ((wAx G ax x) ++ ((wAx G ay y) ++ (wBd G a (b.1, b.2.1, b.2.2.1, b.2.2.2.1, (updB b.2.2.2.2 i ((b.2.2.2.2 i).1, (b.2.2.2.2 i).2.1, (b.2.2.2.2 i).2.2.1, (b.2.2.2.2 i).2.2.2.1, iMin (axPl x ((b.2.2.2.2 i).1)) (axPl x ((b.2.2.2.2 i).2.1)), iMax (axPl x ((b.2.2.2.2 i).1)) (axPl x ((b.2.2.2.2 i).2.1)), iMin (axPl y ((b.2.2.2.2 i).1)) (axPl y ((b.2.2.2.2 i).2.1)), (b.2.2.2.2 i).2.2.2.2.2.2.2.1, (b.2.2.2.2 i).2.2.2.2.2.2.2.2.1, (b.2.2.2.2 i).2.2.2.2.2.2.2.2.2)))))) H locs := hw
  refine r_calli (res := (axPl y ((b.2.2.2.2 i).1))) (u := wAx G ax x) (w := wAx G ay y) (v := wBd G a (b.1, b.2.1, b.2.2.1, b.2.2.2.1, (updB b.2.2.2.2 i ((b.2.2.2.2 i).1, (b.2.2.2.2 i).2.1, (b.2.2.2.2 i).2.2.1, (b.2.2.2.2 i).2.2.2.1, iMin (axPl x ((b.2.2.2.2 i).1)) (axPl x ((b.2.2.2.2 i).2.1)), iMax (axPl x ((b.2.2.2.2 i).1)) (axPl x ((b.2.2.2.2 i).2.1)), iMin (axPl y ((b.2.2.2.2 i).1)) (axPl y ((b.2.2.2.2 i).2.1)), (b.2.2.2.2 i).2.2.2.2.2.2.2.1, (b.2.2.2.2 i).2.2.2.2.2.2.2.2.1, (b.2.2.2.2 i).2.2.2.2.2.2.2.2.2)))) (va_runV (As := [.int (nI ((b.2.2.2.2 i).1))]) (rest := [.ref (a.2.2.2.2 i)]) ⟨hx, hb, hml, hown, hts⟩ (c_placeOf l G ay y ((b.2.2.2.2 i).1) (by first | assumption | omega | decide) H.size) (cwV 1 hts gX1_measure_X0_placeOf rfl rfl rfl (by decide +kernel) ⟨Nat.le_of_ble_eq_true rfl, Nat.le_of_ble_eq_true rfl⟩) (r_preV (ci := 0) (q0 := 4) hK hwc rfl rfl rfl) rfl rfl hl.1 rfl (lv_room (Nat.le_of_ble_eq_true rfl)) dX1_measure_75 ⟨Nat.le_of_ble_eq_true rfl, Nat.le_of_ble_eq_true rfl⟩) hwc hA rfl rfl (fun H locs hw => ?_)
  have hw : wW G A s.heap (wAx G ax x ++ (wAx G ay y ++ (wBd G a (b.1, b.2.1, b.2.2.1, b.2.2.2.1, (updB b.2.2.2.2 i ((b.2.2.2.2 i).1, (b.2.2.2.2 i).2.1, (b.2.2.2.2 i).2.2.1, (b.2.2.2.2 i).2.2.2.1, iMin (axPl x ((b.2.2.2.2 i).1)) (axPl x ((b.2.2.2.2 i).2.1)), iMax (axPl x ((b.2.2.2.2 i).1)) (axPl x ((b.2.2.2.2 i).2.1)), iMin (axPl y ((b.2.2.2.2 i).1)) (axPl y ((b.2.2.2.2 i).2.1)), (b.2.2.2.2 i).2.2.2.2.2.2.2.1, (b.2.2.2.2 i).2.2.2.2.2.2.2.2.1, (b.2.2.2.2 i).2.2.2.2.2.2.2.2.2)))))) H locs := hw
  refine lv_aload_n hx hb dX1_measure_78 rfl (lv_at hl 2 rfl) ?_
  refine lv_aload_n hx hb dX1_measure_79 rfl (lv_at hl 0 rfl) ?_
  refine r_get (ci := 1) (v := .int (nI ((b.2.2.2.2 i).2.1))) (C := RX1) (T := TX1) (N := 10) hx hb hts wiX1_measure_meas0_X1 hown hK hw (12 + i) ((at_skip (n := 4) (j := 8 + i) rfl (by omega)).trans ((at_skip (n := 4) (j := 4 + i) rfl (by omega)).trans (bd_atu (by omega)))) rfl 1 (by decide) wmX1_measure_meas0_1 (fun _ h9 => h9) rfl dX1_measure_80 ?_
  have hwc : wW G A s.heap ((wAx G ax x) ++ ((wAx G ay y) ++ (wBd G a (b.1, b.2.1, b.2.2.1, b.2.2.2.1, (updB b.2.2.2.2 i ((b.2.2.2.2 i).1, (b.2.2.2.2 i).2.1, (b.2.2.2.2 i).2.2.1, (b.2.2.2.2 i).2.2.2.1, iMin (axPl x ((b.2.2.2.2 i).1)) (axPl x ((b.2.2.2.2 i).2.1)), iMax (axPl x ((b.2.2.2.2 i).1)) (axPl x ((b.2.2.2.2 i).2.1)), iMin (axPl y ((b.2.2.2.2 i).1)) (axPl y ((b.2.2.2.2 i).2.1)), (b.2.2.2.2 i).2.2.2.2.2.2.2.1, (b.2.2.2.2 i).2.2.2.2.2.2.2.2.1, (b.2.2.2.2 i).2.2.2.2.2.2.2.2.2)))))) H locs := hw
  refine r_calli (res := (axPl y ((b.2.2.2.2 i).2.1))) (u := wAx G ax x) (w := wAx G ay y) (v := wBd G a (b.1, b.2.1, b.2.2.1, b.2.2.2.1, (updB b.2.2.2.2 i ((b.2.2.2.2 i).1, (b.2.2.2.2 i).2.1, (b.2.2.2.2 i).2.2.1, (b.2.2.2.2 i).2.2.2.1, iMin (axPl x ((b.2.2.2.2 i).1)) (axPl x ((b.2.2.2.2 i).2.1)), iMax (axPl x ((b.2.2.2.2 i).1)) (axPl x ((b.2.2.2.2 i).2.1)), iMin (axPl y ((b.2.2.2.2 i).1)) (axPl y ((b.2.2.2.2 i).2.1)), (b.2.2.2.2 i).2.2.2.2.2.2.2.1, (b.2.2.2.2 i).2.2.2.2.2.2.2.2.1, (b.2.2.2.2 i).2.2.2.2.2.2.2.2.2)))) (va_runV (As := [.int (nI ((b.2.2.2.2 i).2.1))]) (rest := [.int (axPl y ((b.2.2.2.2 i).1)), .ref (a.2.2.2.2 i)]) ⟨hx, hb, hml, hown, hts⟩ (c_placeOf l G ay y ((b.2.2.2.2 i).2.1) (by first | assumption | omega | decide) H.size) (cwV 1 hts gX1_measure_X0_placeOf rfl rfl rfl (by decide +kernel) ⟨Nat.le_of_ble_eq_true rfl, Nat.le_of_ble_eq_true rfl⟩) (r_preV (ci := 0) (q0 := 4) hK hwc rfl rfl rfl) rfl rfl hl.1 rfl (lv_room (Nat.le_of_ble_eq_true rfl)) dX1_measure_83 ⟨Nat.le_of_ble_eq_true rfl, Nat.le_of_ble_eq_true rfl⟩) hwc hA rfl rfl (fun H locs hw => ?_)
  have hw : wW G A s.heap (wAx G ax x ++ (wAx G ay y ++ (wBd G a (b.1, b.2.1, b.2.2.1, b.2.2.2.1, (updB b.2.2.2.2 i ((b.2.2.2.2 i).1, (b.2.2.2.2 i).2.1, (b.2.2.2.2 i).2.2.1, (b.2.2.2.2 i).2.2.2.1, iMin (axPl x ((b.2.2.2.2 i).1)) (axPl x ((b.2.2.2.2 i).2.1)), iMax (axPl x ((b.2.2.2.2 i).1)) (axPl x ((b.2.2.2.2 i).2.1)), iMin (axPl y ((b.2.2.2.2 i).1)) (axPl y ((b.2.2.2.2 i).2.1)), (b.2.2.2.2 i).2.2.2.2.2.2.2.1, (b.2.2.2.2 i).2.2.2.2.2.2.2.2.1, (b.2.2.2.2 i).2.2.2.2.2.2.2.2.2)))))) H locs := hw
  refine va_mmax hx hb (hml.trans hl.1.symm) hown (hts _ wmX1_measure_meas0_7) (hts _ wmX1_measure_meas0_8) (hts _ wmX1_measure_meas0_4) (hts _ wmX1_measure_meas0_9) (Nat.le_of_ble_eq_true rfl) (Nat.le_of_ble_eq_true rfl) (Nat.le_of_ble_eq_true rfl) (Nat.le_of_ble_eq_true rfl) dX1_measure_86 ?_
  refine r_top (y := iMax (axPl y ((b.2.2.2.2 i).1)) (axPl y ((b.2.2.2.2 i).2.1))) rfl ?_
  refine r_put (ci := 1) (v := .int (iMax (axPl y ((b.2.2.2.2 i).1)) (axPl y ((b.2.2.2.2 i).2.1)))) (ty := .int) (C := RX1) (T := TX1) (N := 10) hx hb hts wiX1_measure_meas0_X1 tyX1 tyX1_ok nmX1 hown hK hw (12 + i) ((at_skip (n := 4) (j := 8 + i) rfl (by omega)).trans ((at_skip (n := 4) (j := 4 + i) rfl (by omega)).trans (bd_atu (by omega)))) rfl 7 (by decide) wmX1_measure_meas0_12 (fun _ h9 => h9) rfl (by decide +kernel) rfl rfl (Nat.le_of_ble_eq_true rfl) dX1_measure_89 (ws' := wAx G ax x ++ (wAx G ay y ++ (wBd G a (b.1, b.2.1, b.2.2.1, b.2.2.2.1, (updB b.2.2.2.2 i ((b.2.2.2.2 i).1, (b.2.2.2.2 i).2.1, (b.2.2.2.2 i).2.2.1, (b.2.2.2.2 i).2.2.2.1, iMin (axPl x ((b.2.2.2.2 i).1)) (axPl x ((b.2.2.2.2 i).2.1)), iMax (axPl x ((b.2.2.2.2 i).1)) (axPl x ((b.2.2.2.2 i).2.1)), iMin (axPl y ((b.2.2.2.2 i).1)) (axPl y ((b.2.2.2.2 i).2.1)), iMax (axPl y ((b.2.2.2.2 i).1)) (axPl y ((b.2.2.2.2 i).2.1)), (b.2.2.2.2 i).2.2.2.2.2.2.2.2.1, (b.2.2.2.2 i).2.2.2.2.2.2.2.2.2)))))) ((set_skip (n := 4) (j := 8 + i) rfl (by omega)).trans (congrArg (fun z => _ ++ z) ((set_skip (n := 4) (j := 4 + i) rfl (by omega)).trans (congrArg (fun z => _ ++ z) (bd_setu (G := G) (a := a) (h := b.1) (n := b.2.1) (xs := b.2.2.1) (ys := b.2.2.2.1) (T := b.2.2.2.2) (f := ((b.2.2.2.2 i).1, (b.2.2.2.2 i).2.1, (b.2.2.2.2 i).2.2.1, (b.2.2.2.2 i).2.2.2.1, iMin (axPl x ((b.2.2.2.2 i).1)) (axPl x ((b.2.2.2.2 i).2.1)), iMax (axPl x ((b.2.2.2.2 i).1)) (axPl x ((b.2.2.2.2 i).2.1)), iMin (axPl y ((b.2.2.2.2 i).1)) (axPl y ((b.2.2.2.2 i).2.1)), (b.2.2.2.2 i).2.2.2.2.2.2.2.1, (b.2.2.2.2 i).2.2.2.2.2.2.2.2.1, (b.2.2.2.2 i).2.2.2.2.2.2.2.2.2)) (f' := ((b.2.2.2.2 i).1, (b.2.2.2.2 i).2.1, (b.2.2.2.2 i).2.2.1, (b.2.2.2.2 i).2.2.2.1, iMin (axPl x ((b.2.2.2.2 i).1)) (axPl x ((b.2.2.2.2 i).2.1)), iMax (axPl x ((b.2.2.2.2 i).1)) (axPl x ((b.2.2.2.2 i).2.1)), iMin (axPl y ((b.2.2.2.2 i).1)) (axPl y ((b.2.2.2.2 i).2.1)), iMax (axPl y ((b.2.2.2.2 i).1)) (axPl y ((b.2.2.2.2 i).2.1)), (b.2.2.2.2 i).2.2.2.2.2.2.2.2.1, (b.2.2.2.2 i).2.2.2.2.2.2.2.2.2)) (v := i) (by omega)))))) (fun H locs hw => ?_)
  have join_119 : ∀ (v : Int32) (hv : v = bkFl (bkSides x y (b.2.2.2.2 i))) (hv01 : v = 0 ∨ v = 1) (H : Heap) (locs : List Loc) (ls : Array Slot), wW G A s.heap (wAx G ax x ++ (wAx G ay y ++ (wBd G a (b.1, b.2.1, b.2.2.1, b.2.2.2.1, (updB b.2.2.2.2 i ((b.2.2.2.2 i).1, (b.2.2.2.2 i).2.1, (b.2.2.2.2 i).2.2.1, (b.2.2.2.2 i).2.2.2.1, iMin (axPl x ((b.2.2.2.2 i).1)) (axPl x ((b.2.2.2.2 i).2.1)), iMax (axPl x ((b.2.2.2.2 i).1)) (axPl x ((b.2.2.2.2 i).2.1)), iMin (axPl y ((b.2.2.2.2 i).1)) (axPl y ((b.2.2.2.2 i).2.1)), iMax (axPl y ((b.2.2.2.2 i).1)) (axPl y ((b.2.2.2.2 i).2.1)), (b.2.2.2.2 i).2.2.2.2.2.2.2.2.1, (b.2.2.2.2 i).2.2.2.2.2.2.2.2.2)))))) H locs → lv_has ls 5 [(0, .ref (a.2.2.2.2 i)), (1, .ref ax.1), (2, .ref ay.1), (3, .int h)] → W p l e ({ frames := 1, cells := 0, slots := 0, locals := 24 }) s m [.ref (a.2.2.2.2 i), .ref ax.1, .ref ay.1, .int h].toArray below meth c H locs 0 0 (MQ below (va_Qv (fun (_ : Unit) => True) (fun _ t9 => wPost G A (wAx G ax x ++ (wAx G ay y ++ (wBd G a (b.1, b.2.1, b.2.2.1, b.2.2.2.1, (updB b.2.2.2.2 i (bkMeas0 x y (b.2.2.2.2 i))))))) t9) A) [.ref (a.2.2.2.2 i), .ref ax.1, .ref ay.1, .int h].toArray s 0 0 A) (F0 m 119 ls [.int v]) := by
    intro v hv hv01 H locs ls hw hl
    refine lv_istore (lv' := [(4, .int v), (0, .ref (a.2.2.2.2 i)), (1, .ref ax.1), (2, .ref ay.1), (3, .int h)]) hx hb dX1_measure_119 hl (by decide) rfl (fun ls hl => ?_)
    refine lv_aload_n hx hb dX1_measure_121 rfl (lv_at hl 1 rfl) ?_
    refine r_get (ci := 1) (v := .null) (C := RX1) (T := TX1) (N := 10) hx hb hts wiX1_measure_meas0_X1 hown hK hw (12 + i) ((at_skip (n := 4) (j := 8 + i) rfl (by omega)).trans ((at_skip (n := 4) (j := 4 + i) rfl (by omega)).trans (bd_atu (by omega)))) rfl 3 (by decide) wmX1_measure_meas0_13 (fun _ h9 => h9) (congrArg (fun o9 : Option Nat => some (va_rf (o9.map a.2.2.2.2))) ho) dX1_measure_122 ?_
    refine lv_ifnonnullN hx hb dX1_measure_125 ?_
    refine lv_aload_n hx hb dX1_measure_128 rfl (lv_at hl 1 rfl) ?_
    refine lv_iconst (v := 0) hx hb dX1_measure_129 (by decide) ?_
    refine r_put (ci := 1) (v := .int 0) (ty := .int) (C := RX1) (T := TX1) (N := 10) hx hb hts wiX1_measure_meas0_X1 tyX1 tyX1_ok nmX1 hown hK hw (12 + i) ((at_skip (n := 4) (j := 8 + i) rfl (by omega)).trans ((at_skip (n := 4) (j := 4 + i) rfl (by omega)).trans (bd_atu (by omega)))) rfl 8 (by decide) wmX1_measure_meas0_14 (fun _ h9 => h9) rfl (by decide +kernel) rfl rfl (Nat.le_of_ble_eq_true rfl) dX1_measure_130 (ws' := wAx G ax x ++ (wAx G ay y ++ (wBd G a (b.1, b.2.1, b.2.2.1, b.2.2.2.1, (updB b.2.2.2.2 i ((b.2.2.2.2 i).1, (b.2.2.2.2 i).2.1, (b.2.2.2.2 i).2.2.1, (b.2.2.2.2 i).2.2.2.1, iMin (axPl x ((b.2.2.2.2 i).1)) (axPl x ((b.2.2.2.2 i).2.1)), iMax (axPl x ((b.2.2.2.2 i).1)) (axPl x ((b.2.2.2.2 i).2.1)), iMin (axPl y ((b.2.2.2.2 i).1)) (axPl y ((b.2.2.2.2 i).2.1)), iMax (axPl y ((b.2.2.2.2 i).1)) (axPl y ((b.2.2.2.2 i).2.1)), 0, (b.2.2.2.2 i).2.2.2.2.2.2.2.2.2)))))) ((set_skip (n := 4) (j := 8 + i) rfl (by omega)).trans (congrArg (fun z => _ ++ z) ((set_skip (n := 4) (j := 4 + i) rfl (by omega)).trans (congrArg (fun z => _ ++ z) (bd_setu (G := G) (a := a) (h := b.1) (n := b.2.1) (xs := b.2.2.1) (ys := b.2.2.2.1) (T := b.2.2.2.2) (f := ((b.2.2.2.2 i).1, (b.2.2.2.2 i).2.1, (b.2.2.2.2 i).2.2.1, (b.2.2.2.2 i).2.2.2.1, iMin (axPl x ((b.2.2.2.2 i).1)) (axPl x ((b.2.2.2.2 i).2.1)), iMax (axPl x ((b.2.2.2.2 i).1)) (axPl x ((b.2.2.2.2 i).2.1)), iMin (axPl y ((b.2.2.2.2 i).1)) (axPl y ((b.2.2.2.2 i).2.1)), iMax (axPl y ((b.2.2.2.2 i).1)) (axPl y ((b.2.2.2.2 i).2.1)), (b.2.2.2.2 i).2.2.2.2.2.2.2.2.1, (b.2.2.2.2 i).2.2.2.2.2.2.2.2.2)) (f' := ((b.2.2.2.2 i).1, (b.2.2.2.2 i).2.1, (b.2.2.2.2 i).2.2.1, (b.2.2.2.2 i).2.2.2.1, iMin (axPl x ((b.2.2.2.2 i).1)) (axPl x ((b.2.2.2.2 i).2.1)), iMax (axPl x ((b.2.2.2.2 i).1)) (axPl x ((b.2.2.2.2 i).2.1)), iMin (axPl y ((b.2.2.2.2 i).1)) (axPl y ((b.2.2.2.2 i).2.1)), iMax (axPl y ((b.2.2.2.2 i).1)) (axPl y ((b.2.2.2.2 i).2.1)), 0, (b.2.2.2.2 i).2.2.2.2.2.2.2.2.2)) (v := i) (by omega)))))) (fun H locs hw => ?_)
    refine lv_aload_n hx hb dX1_measure_133 rfl (lv_at hl 1 rfl) ?_
    refine lv_iload hx hb dX1_measure_134 (lv_at hl 0 rfl) ?_
    refine r_put (ci := 1) (v := .int v) (ty := .boolean) (C := RX1) (T := TX1) (N := 10) hx hb hts wiX1_measure_meas0_X1 tyX1 tyX1_ok nmX1 hown hK hw (12 + i) ((at_skip (n := 4) (j := 8 + i) rfl (by omega)).trans ((at_skip (n := 4) (j := 4 + i) rfl (by omega)).trans (bd_atu (by omega)))) rfl 9 (by decide) wmX1_measure_meas0_15 (fun _ h9 => h9) rfl (by decide +kernel) (zb_nar hv01) (zb_fit hv01) (Nat.le_of_ble_eq_true rfl) dX1_measure_136 (ws' := wAx G ax x ++ (wAx G ay y ++ (wBd G a (b.1, b.2.1, b.2.2.1, b.2.2.2.1, (updB b.2.2.2.2 i ((b.2.2.2.2 i).1, (b.2.2.2.2 i).2.1, (b.2.2.2.2 i).2.2.1, (b.2.2.2.2 i).2.2.2.1, iMin (axPl x ((b.2.2.2.2 i).1)) (axPl x ((b.2.2.2.2 i).2.1)), iMax (axPl x ((b.2.2.2.2 i).1)) (axPl x ((b.2.2.2.2 i).2.1)), iMin (axPl y ((b.2.2.2.2 i).1)) (axPl y ((b.2.2.2.2 i).2.1)), iMax (axPl y ((b.2.2.2.2 i).1)) (axPl y ((b.2.2.2.2 i).2.1)), 0, v)))))) ((set_skip (n := 4) (j := 8 + i) rfl (by omega)).trans (congrArg (fun z => _ ++ z) ((set_skip (n := 4) (j := 4 + i) rfl (by omega)).trans (congrArg (fun z => _ ++ z) (bd_setu (G := G) (a := a) (h := b.1) (n := b.2.1) (xs := b.2.2.1) (ys := b.2.2.2.1) (T := b.2.2.2.2) (f := ((b.2.2.2.2 i).1, (b.2.2.2.2 i).2.1, (b.2.2.2.2 i).2.2.1, (b.2.2.2.2 i).2.2.2.1, iMin (axPl x ((b.2.2.2.2 i).1)) (axPl x ((b.2.2.2.2 i).2.1)), iMax (axPl x ((b.2.2.2.2 i).1)) (axPl x ((b.2.2.2.2 i).2.1)), iMin (axPl y ((b.2.2.2.2 i).1)) (axPl y ((b.2.2.2.2 i).2.1)), iMax (axPl y ((b.2.2.2.2 i).1)) (axPl y ((b.2.2.2.2 i).2.1)), 0, (b.2.2.2.2 i).2.2.2.2.2.2.2.2.2)) (f' := ((b.2.2.2.2 i).1, (b.2.2.2.2 i).2.1, (b.2.2.2.2 i).2.2.1, (b.2.2.2.2 i).2.2.2.1, iMin (axPl x ((b.2.2.2.2 i).1)) (axPl x ((b.2.2.2.2 i).2.1)), iMax (axPl x ((b.2.2.2.2 i).1)) (axPl x ((b.2.2.2.2 i).2.1)), iMin (axPl y ((b.2.2.2.2 i).1)) (axPl y ((b.2.2.2.2 i).2.1)), iMax (axPl y ((b.2.2.2.2 i).1)) (axPl y ((b.2.2.2.2 i).2.1)), 0, v)) (v := i) (by omega)))))) (fun H locs hw => ?_)
    refine lv_goto (tgt := 201) hx hb dX1_measure_139 (by decide) ?_
    exact m_vret hx hb hr hlocks hK hw (Nat.le_of_ble_eq_true rfl) (Nat.le_of_ble_eq_true rfl) dX1_measure_201 (show wAx G ax x ++ (wAx G ay y ++ (wBd G a (b.1, b.2.1, b.2.2.1, b.2.2.2.1, (updB b.2.2.2.2 i ((b.2.2.2.2 i).1, (b.2.2.2.2 i).2.1, (b.2.2.2.2 i).2.2.1, (b.2.2.2.2 i).2.2.2.1, iMin (axPl x ((b.2.2.2.2 i).1)) (axPl x ((b.2.2.2.2 i).2.1)), iMax (axPl x ((b.2.2.2.2 i).1)) (axPl x ((b.2.2.2.2 i).2.1)), iMin (axPl y ((b.2.2.2.2 i).1)) (axPl y ((b.2.2.2.2 i).2.1)), iMax (axPl y ((b.2.2.2.2 i).1)) (axPl y ((b.2.2.2.2 i).2.1)), 0, v))))) = wAx G ax x ++ (wAx G ay y ++ (wBd G a (b.1, b.2.1, b.2.2.1, b.2.2.2.1, (updB b.2.2.2.2 i (bkMeas0 x y (b.2.2.2.2 i)))))) by subst hv; rfl)
  refine lv_aload_n hx hb dX1_measure_92 rfl (lv_at hl 0 rfl) ?_
  refine r_get (ci := 1) (v := .int (iMin (axPl x ((b.2.2.2.2 i).1)) (axPl x ((b.2.2.2.2 i).2.1)))) (C := RX1) (T := TX1) (N := 10) hx hb hts wiX1_measure_meas0_X1 hown hK hw (12 + i) ((at_skip (n := 4) (j := 8 + i) rfl (by omega)).trans ((at_skip (n := 4) (j := 4 + i) rfl (by omega)).trans (bd_atu (by omega)))) rfl 4 (by decide) wmX1_measure_meas0_6 (fun _ h9 => h9) rfl dX1_measure_93 ?_
  refine lv_aload_n hx hb dX1_measure_96 rfl (lv_at hl 0 rfl) ?_
  refine r_get (ci := 1) (v := .int (iMax (axPl x ((b.2.2.2.2 i).1)) (axPl x ((b.2.2.2.2 i).2.1)))) (C := RX1) (T := TX1) (N := 10) hx hb hts wiX1_measure_meas0_X1 hown hK hw (12 + i) ((at_skip (n := 4) (j := 8 + i) rfl (by omega)).trans ((at_skip (n := 4) (j := 4 + i) rfl (by omega)).trans (bd_atu (by omega)))) rfl 5 (by decide) wmX1_measure_meas0_10 (fun _ h9 => h9) rfl dX1_measure_97 ?_
  refine lv_icmp_eq (tgt := 114) hx hb dX1_measure_100 (by decide) (fun c_100 => ?_) (fun c_100 => ?_)
  · refine lv_iconst (v := 1) hx hb dX1_measure_114 (by decide) ?_
    refine lv_goto (tgt := 119) hx hb dX1_measure_115 (by decide) ?_
    exact join_119 1 (by exact bkFlat_1 c_100) (by decide) _ _ _ hw (lv_sub hl [0, 1, 2, 3] rfl)
  · refine lv_aload_n hx hb dX1_measure_103 rfl (lv_at hl 0 rfl) ?_
    refine r_get (ci := 1) (v := .int (iMin (axPl y ((b.2.2.2.2 i).1)) (axPl y ((b.2.2.2.2 i).2.1)))) (C := RX1) (T := TX1) (N := 10) hx hb hts wiX1_measure_meas0_X1 hown hK hw (12 + i) ((at_skip (n := 4) (j := 8 + i) rfl (by omega)).trans ((at_skip (n := 4) (j := 4 + i) rfl (by omega)).trans (bd_atu (by omega)))) rfl 6 (by decide) wmX1_measure_meas0_11 (fun _ h9 => h9) rfl dX1_measure_104 ?_
    refine lv_aload_n hx hb dX1_measure_107 rfl (lv_at hl 0 rfl) ?_
    refine r_get (ci := 1) (v := .int (iMax (axPl y ((b.2.2.2.2 i).1)) (axPl y ((b.2.2.2.2 i).2.1)))) (C := RX1) (T := TX1) (N := 10) hx hb hts wiX1_measure_meas0_X1 hown hK hw (12 + i) ((at_skip (n := 4) (j := 8 + i) rfl (by omega)).trans ((at_skip (n := 4) (j := 4 + i) rfl (by omega)).trans (bd_atu (by omega)))) rfl 7 (by decide) wmX1_measure_meas0_12 (fun _ h9 => h9) rfl dX1_measure_108 ?_
    refine lv_icmp_ne (tgt := 118) hx hb dX1_measure_111 (by decide) (fun c_111 => ?_) (fun c_111 => ?_)
    · refine lv_iconst (v := 0) hx hb dX1_measure_118 (by decide) ?_
      exact join_119 0 (by exact bkFlat_3 c_100 c_111) (by decide) _ _ _ hw (lv_sub hl [0, 1, 2, 3] rfl)
    · refine lv_iconst (v := 1) hx hb dX1_measure_114 (by decide) ?_
      refine lv_goto (tgt := 119) hx hb dX1_measure_115 (by decide) ?_
      exact join_119 1 (by exact bkFlat_2 c_100 c_111) (by decide) _ _ _ hw (lv_sub hl [0, 1, 2, 3] rfl)

theorem wiX1_measure_meas1_X1 : ∀ w ∈ wsX10, w ∈ wsX1_measure := by decide +kernel
theorem wmX1_measure_meas1_0 : Cond.fieldLink RX1 7 "PartSketch$Block" "one" "I" ∈ wsX1_measure := by decide +kernel
theorem wmX1_measure_meas1_1 : Cond.fieldLink RX1 13 "PartSketch$Block" "other" "I" ∈ wsX1_measure := by decide +kernel
theorem wmX1_measure_meas1_2 : Cond.methodLink RX1 29 Lib.Math.min.name ∈ wsX1_measure := by decide +kernel
theorem wmX1_measure_meas1_3 : Cond.static Lib.Math.min.name ∈ wsX1_measure := by decide +kernel
theorem wmX1_measure_meas1_4 : Cond.initialized "java/lang/Math" ∈ wsX1_measure := by decide +kernel
theorem wmX1_measure_meas1_5 : Cond.code Lib.Math.min.name Lib.Math.min.code 2 (some .int) ∈ wsX1_measure := by decide +kernel
theorem wmX1_measure_meas1_6 : Cond.fieldLink RX1 35 "PartSketch$Block" "left" "I" ∈ wsX1_measure := by decide +kernel
theorem wmX1_measure_meas1_7 : Cond.methodLink RX1 38 Lib.Math.max.name ∈ wsX1_measure := by decide +kernel
theorem wmX1_measure_meas1_8 : Cond.static Lib.Math.max.name ∈ wsX1_measure := by decide +kernel
theorem wmX1_measure_meas1_9 : Cond.code Lib.Math.max.name Lib.Math.max.code 2 (some .int) ∈ wsX1_measure := by decide +kernel
theorem wmX1_measure_meas1_10 : Cond.fieldLink RX1 41 "PartSketch$Block" "right" "I" ∈ wsX1_measure := by decide +kernel
theorem wmX1_measure_meas1_11 : Cond.fieldLink RX1 44 "PartSketch$Block" "low" "I" ∈ wsX1_measure := by decide +kernel
theorem wmX1_measure_meas1_12 : Cond.fieldLink RX1 47 "PartSketch$Block" "high" "I" ∈ wsX1_measure := by decide +kernel
theorem wmX1_measure_meas1_13 : Cond.fieldLink RX1 19 "PartSketch$Block" "outer" "LPartSketch$Block;" ∈ wsX1_measure := by decide +kernel
theorem wmX1_measure_meas1_14 : Cond.fieldLink RX1 50 "PartSketch$Block" "bottom" "I" ∈ wsX1_measure := by decide +kernel
theorem wmX1_measure_meas1_15 : Cond.fieldLink RX1 16 "PartSketch$Block" "depth" "I" ∈ wsX1_measure := by decide +kernel
theorem wmX1_measure_meas1_16 : Cond.fieldLink RX1 53 "PartSketch$Block" "failing" "Z" ∈ wsX1_measure := by decide +kernel
set_option maxHeartbeats 4000000 in
set_option maxRecDepth 100000 in
/-- Block.measure, a pocket -/
theorem c_meas1 (l : Launch) (G : gT) (ax : aAx) (x : tAx) (ay : aAx) (y : tAx) (a : aBd) (b : tBd) (i : Nat) (h : Int32) (j : Nat) (hi : i < 9) (h1 : (b.2.2.2.2 i).1 ≤ 15) (h2 : (b.2.2.2.2 i).2.1 ≤ 15) (ho : (b.2.2.2.2 i).2.2.2.1 = some j) (hj : j < 9) (hij : j ≠ i) (sz : Nat) : MV l yX1_measure wsX1_measure ({ frames := 1, cells := 0, slots := 0, locals := 24 }) G [.ref (a.2.2.2.2 i), .ref ax.1, .ref ay.1, .int h] (wAx G ax x ++ (wAx G ay y ++ (wBd G a b))) (wAx G ax x ++ (wAx G ay y ++ (wBd G a (b.1, b.2.1, b.2.2.1, b.2.2.2.1, (updB b.2.2.2.2 i (bkMeas1 x y h (b.2.2.2.2 i) (b.2.2.2.2 j))))))) sz 0 0 := by
  refine m_of (Qc := fun A => (va_Qv (fun (_ : Unit) => True) (fun _ t9 => wPost G A (wAx G ax x ++ (wAx G ay y ++ (wBd G a (b.1, b.2.1, b.2.2.1, b.2.2.2.1, (updB b.2.2.2.2 i (bkMeas1 x y h (b.2.2.2.2 i) (b.2.2.2.2 j))))))) t9) A)) (cc := cX1_measure) (maxL := 5) (ret := none) (by decide) rfl (Nat.le_of_ble_eq_true rfl) ?_
  intro p e s m A below meth c H locs ls hx hb hr hts hown hlocks hin hml hK hA hw hl
  have hl : lv_has ls 5 [(0, .ref (a.2.2.2.2 i)), (1, .ref ax.1), (2, .ref ay.1), (3, .int h)] := hl
  refine lv_aload_n hx hb dX1_measure_0 rfl (lv_at hl 0 rfl) ?_
  refine lv_aload_n hx hb dX1_measure_1 rfl (lv_at hl 1 rfl) ?_
  refine lv_aload_n hx hb dX1_measure_2 rfl (lv_at hl 0 rfl) ?_
  refine r_get (ci := 1) (v := .int (nI ((b.2.2.2.2 i).1))) (C := RX1) (T := TX1) (N := 10) hx hb hts wiX1_measure_meas1_X1 hown hK hw (12 + i) ((at_skip (n := 4) (j := 8 + i) rfl (by omega)).trans ((at_skip (n := 4) (j := 4 + i) rfl (by omega)).trans (bd_at (by omega)))) rfl 0 (by decide) wmX1_measure_meas1_0 (fun _ h9 => h9) rfl dX1_measure_3 ?_
  have hwc : wW G A s.heap (([] : va_W) ++ ((wAx G ax x) ++ (wAx G ay y ++ (wBd G a b)))) H locs := hw
  refine r_calli (res := (axPl x ((b.2.2.2.2 i).1))) (u := ([] : va_W)) (w := wAx G ax x) (v := wAx G ay y ++ (wBd G a b)) (va_runV (As := [.int (nI ((b.2.2.2.2 i).1))]) (rest := [.ref (a.2.2.2.2 i)]) ⟨hx, hb, hml, hown, hts⟩ (c_placeOf l G ax x ((b.2.2.2.2 i).1) (by first | assumption | omega | decide) H.size) (cwV 1 hts gX1_measure_X0_placeOf rfl rfl rfl (by decide +kernel) ⟨Nat.le_of_ble_eq_true rfl, Nat.le_of_ble_eq_true rfl⟩) (r_preV (ci := 0) (q0 := 0) hK hwc rfl rfl rfl) rfl rfl hl.1 rfl (lv_room (Nat.le_of_ble_eq_true rfl)) dX1_measure_6 ⟨Nat.le_of_ble_eq_true rfl, Nat.le_of_ble_eq_true rfl⟩) hwc hA rfl rfl (fun H locs hw => ?_)
  have hw : wW G A s.heap (wAx G ax x ++ (wAx G ay y ++ (wBd G a b))) H locs := hw
  refine lv_aload_n hx hb dX1_measure_9 rfl (lv_at hl 1 rfl) ?_
  refine lv_aload_n hx hb dX1_measure_10 rfl (lv_at hl 0 rfl) ?_
  refine r_get (ci := 1) (v := .int (nI ((b.2.2.2.2 i).2.1))) (C := RX1) (T := TX1) (N := 10) hx hb hts wiX1_measure_meas1_X1 hown hK hw (12 + i) ((at_skip (n := 4) (j := 8 + i) rfl (by omega)).trans ((at_skip (n := 4) (j := 4 + i) rfl (by omega)).trans (bd_at (by omega)))) rfl 1 (by decide) wmX1_measure_meas1_1 (fun _ h9 => h9) rfl dX1_measure_11 ?_
  have hwc : wW G A s.heap (([] : va_W) ++ ((wAx G ax x) ++ (wAx G ay y ++ (wBd G a b)))) H locs := hw
  refine r_calli (res := (axPl x ((b.2.2.2.2 i).2.1))) (u := ([] : va_W)) (w := wAx G ax x) (v := wAx G ay y ++ (wBd G a b)) (va_runV (As := [.int (nI ((b.2.2.2.2 i).2.1))]) (rest := [.int (axPl x ((b.2.2.2.2 i).1)), .ref (a.2.2.2.2 i)]) ⟨hx, hb, hml, hown, hts⟩ (c_placeOf l G ax x ((b.2.2.2.2 i).2.1) (by first | assumption | omega | decide) H.size) (cwV 1 hts gX1_measure_X0_placeOf rfl rfl rfl (by decide +kernel) ⟨Nat.le_of_ble_eq_true rfl, Nat.le_of_ble_eq_true rfl⟩) (r_preV (ci := 0) (q0 := 0) hK hwc rfl rfl rfl) rfl rfl hl.1 rfl (lv_room (Nat.le_of_ble_eq_true rfl)) dX1_measure_14 ⟨Nat.le_of_ble_eq_true rfl, Nat.le_of_ble_eq_true rfl⟩) hwc hA rfl rfl (fun H locs hw => ?_)
  have hw : wW G A s.heap (wAx G ax x ++ (wAx G ay y ++ (wBd G a b))) H locs := hw
  refine va_mmin hx hb (hml.trans hl.1.symm) hown (hts _ wmX1_measure_meas1_2) (hts _ wmX1_measure_meas1_3) (hts _ wmX1_measure_meas1_4) (hts _ wmX1_measure_meas1_5) (Nat.le_of_ble_eq_true rfl) (Nat.le_of_ble_eq_true rfl) (Nat.le_of_ble_eq_true rfl) (Nat.le_of_ble_eq_true rfl) dX1_measure_17 ?_
  refine r_top (y := iMin (axPl x ((b.2.2.2.2 i).1)) (axPl x ((b.2.2.2.2 i).2.1))) rfl ?_
  refine r_put (ci := 1) (v := .int (iMin (axPl x ((b.2.2.2.2 i).1)) (axPl x ((b.2.2.2.2 i).2.1)))) (ty := .int) (C := RX1) (T := TX1) (N := 10) hx hb hts wiX1_measure_meas1_X1 tyX1 tyX1_ok nmX1 hown hK hw (12 + i) ((at_skip (n := 4) (j := 8 + i) rfl (by omega)).trans ((at_skip (n := 4) (j := 4 + i) rfl (by omega)).trans (bd_at (by omega)))) rfl 4 (by decide) wmX1_measure_meas1_6 (fun _ h9 => h9) rfl (by decide +kernel) rfl rfl (Nat.le_of_ble_eq_true rfl) dX1_measure_20 (ws' := wAx G ax x ++ (wAx G ay y ++ (wBd G a (b.1, b.2.1, b.2.2.1, b.2.2.2.1, (updB b.2.2.2.2 i ((b.2.2.2.2 i).1, (b.2.2.2.2 i).2.1, (b.2.2.2.2 i).2.2.1, (b.2.2.2.2 i).2.2.2.1, iMin (axPl x ((b.2.2.2.2 i).1)) (axPl x ((b.2.2.2.2 i).2.1)), (b.2.2.2.2 i).2.2.2.2.2.1, (b.2.2.2.2 i).2.2.2.2.2.2.1, (b.2.2.2.2 i).2.2.2.2.2.2.2.1, (b.2.2.2.2 i).2.2.2.2.2.2.2.2.1, (b.2.2.2.2 i).2.2.2.2.2.2.2.2.2)))))) ((set_skip (n := 4) (j := 8 + i) rfl (by omega)).trans (congrArg (fun z => _ ++ z) ((set_skip (n := 4) (j := 4 + i) rfl (by omega)).trans (congrArg (fun z => _ ++ z) (bd_set (G := G) (a := a) (b := b) (f := ((b.2.2.2.2 i).1, (b.2.2.2.2 i).2.1, (b.2.2.2.2 i).2.2.1, (b.2.2.2.2 i).2.2.2.1, iMin (axPl x ((b.2.2.2.2 i).1)) (axPl x ((b.2.2.2.2 i).2.1)), (b.2.2.2.2 i).2.2.2.2.2.1, (b.2.2.2.2 i).2.2.2.2.2.2.1, (b.2.2.2.2 i).2.2.2.2.2.2.2.1, (b.2.2.2.2 i).2.2.2.2.2.2.2.2.1, (b.2.2.2.2 i).2.2.2.2.2.2.2.2.2)) (v := i) (by omega)))))) (fun H locs hw => ?_)
  refine lv_aload_n hx hb dX1_measure_23 rfl (lv_at hl 0 rfl) ?_
  refine lv_aload_n hx hb dX1_measure_24 rfl (lv_at hl 1 rfl) ?_
  refine lv_aload_n hx hb dX1_measure_25 rfl (lv_at hl 0 rfl) ?_
  refine r_get (ci := 1) (v := .int (nI ((b.2.2.2.2 i).1))) (C := RX1) (T := TX1) (N := 10) hx hb hts wiX1_measure_meas1_X1 hown hK hw (12 + i) ((at_skip (n := 4) (j := 8 + i) rfl (by omega)).trans ((at_skip (n := 4) (j := 4 + i) rfl (by omega)).trans (bd_atu (by omega)))) rfl 0 (by decide) wmX1_measure_meas1_0 (fun _ h9 => h9) rfl dX1_measure_26 ?_
  have hwc : wW G A s.heap (([] : va_W) ++ ((wAx G ax x) ++ (wAx G ay y ++ (wBd G a (b.1, b.2.1, b.2.2.1, b.2.2.2.1, (updB b.2.2.2.2 i ((b.2.2.2.2 i).1, (b.2.2.2.2 i).2.1, (b.2.2.2.2 i).2.2.1, (b.2.2.2.2 i).2.2.2.1, iMin (axPl x ((b.2.2.2.2 i).1)) (axPl x ((b.2.2.2.2 i).2.1)), (b.2.2.2.2 i).2.2.2.2.2.1, (b.2.2.2.2 i).2.2.2.2.2.2.1, (b.2.2.2.2 i).2.2.2.2.2.2.2.1, (b.2.2.2.2 i).2.2.2.2.2.2.2.2.1, (b.2.2.2.2 i).2.2.2.2.2.2.2.2.2))))))) H locs := hw
  refine r_calli (res := (axPl x ((b.2.2.2.2 i).1))) (u := ([] : va_W)) (w := wAx G ax x) (v := wAx G ay y ++ (wBd G a (b.1, b.2.1, b.2.2.1, b.2.2.2.1, (updB b.2.2.2.2 i ((b.2.2.2.2 i).1, (b.2.2.2.2 i).2.1, (b.2.2.2.2 i).2.2.1, (b.2.2.2.2 i).2.2.2.1, iMin (axPl x ((b.2.2.2.2 i).1)) (axPl x ((b.2.2.2.2 i).2.1)), (b.2.2.2.2 i).2.2.2.2.2.1, (b.2.2.2.2 i).2.2.2.2.2.2.1, (b.2.2.2.2 i).2.2.2.2.2.2.2.1, (b.2.2.2.2 i).2.2.2.2.2.2.2.2.1, (b.2.2.2.2 i).2.2.2.2.2.2.2.2.2))))) (va_runV (As := [.int (nI ((b.2.2.2.2 i).1))]) (rest := [.ref (a.2.2.2.2 i)]) ⟨hx, hb, hml, hown, hts⟩ (c_placeOf l G ax x ((b.2.2.2.2 i).1) (by first | assumption | omega | decide) H.size) (cwV 1 hts gX1_measure_X0_placeOf rfl rfl rfl (by decide +kernel) ⟨Nat.le_of_ble_eq_true rfl, Nat.le_of_ble_eq_true rfl⟩) (r_preV (ci := 0) (q0 := 0) hK hwc rfl rfl rfl) rfl rfl hl.1 rfl (lv_room (Nat.le_of_ble_eq_true rfl)) dX1_measure_29 ⟨Nat.le_of_ble_eq_true rfl, Nat.le_of_ble_eq_true rfl⟩) hwc hA rfl rfl (fun H locs hw => ?_)
  have hw : wW G A s.heap (wAx G ax x ++ (wAx G ay y ++ (wBd G a (b.1, b.2.1, b.2.2.1, b.2.2.2.1, (updB b.2.2.2.2 i ((b.2.2.2.2 i).1, (b.2.2.2.2 i).2.1, (b.2.2.2.2 i).2.2.1, (b.2.2.2.2 i).2.2.2.1, iMin (axPl x ((b.2.2.2.2 i).1)) (axPl x ((b.2.2.2.2 i).2.1)), (b.2.2.2.2 i).2.2.2.2.2.1, (b.2.2.2.2 i).2.2.2.2.2.2.1, (b.2.2.2.2 i).2.2.2.2.2.2.2.1, (b.2.2.2.2 i).2.2.2.2.2.2.2.2.1, (b.2.2.2.2 i).2.2.2.2.2.2.2.2.2)))))) H locs := hw
  refine lv_aload_n hx hb dX1_measure_32 rfl (lv_at hl 1 rfl) ?_
  refine lv_aload_n hx hb dX1_measure_33 rfl (lv_at hl 0 rfl) ?_
  refine r_get (ci := 1) (v := .int (nI ((b.2.2.2.2 i).2.1))) (C := RX1) (T := TX1) (N := 10) hx hb hts wiX1_measure_meas1_X1 hown hK hw (12 + i) ((at_skip (n := 4) (j := 8 + i) rfl (by omega)).trans ((at_skip (n := 4) (j := 4 + i) rfl (by omega)).trans (bd_atu (by omega)))) rfl 1 (by decide) wmX1_measure_meas1_1 (fun _ h9 => h9) rfl dX1_measure_34 ?_
  have hwc : wW G A s.heap (([] : va_W) ++ ((wAx G ax x) ++ (wAx G ay y ++ (wBd G a (b.1, b.2.1, b.2.2.1, b.2.2.2.1, (updB b.2.2.2.2 i ((b.2.2.2.2 i).1, (b.2.2.2.2 i).2.1, (b.2.2.2.2 i).2.2.1, (b.2.2.2.2 i).2.2.2.1, iMin (axPl x ((b.2.2.2.2 i).1)) (axPl x ((b.2.2.2.2 i).2.1)), (b.2.2.2.2 i).2.2.2.2.2.1, (b.2.2.2.2 i).2.2.2.2.2.2.1, (b.2.2.2.2 i).2.2.2.2.2.2.2.1, (b.2.2.2.2 i).2.2.2.2.2.2.2.2.1, (b.2.2.2.2 i).2.2.2.2.2.2.2.2.2))))))) H locs := hw
  refine r_calli (res := (axPl x ((b.2.2.2.2 i).2.1))) (u := ([] : va_W)) (w := wAx G ax x) (v := wAx G ay y ++ (wBd G a (b.1, b.2.1, b.2.2.1, b.2.2.2.1, (updB b.2.2.2.2 i ((b.2.2.2.2 i).1, (b.2.2.2.2 i).2.1, (b.2.2.2.2 i).2.2.1, (b.2.2.2.2 i).2.2.2.1, iMin (axPl x ((b.2.2.2.2 i).1)) (axPl x ((b.2.2.2.2 i).2.1)), (b.2.2.2.2 i).2.2.2.2.2.1, (b.2.2.2.2 i).2.2.2.2.2.2.1, (b.2.2.2.2 i).2.2.2.2.2.2.2.1, (b.2.2.2.2 i).2.2.2.2.2.2.2.2.1, (b.2.2.2.2 i).2.2.2.2.2.2.2.2.2))))) (va_runV (As := [.int (nI ((b.2.2.2.2 i).2.1))]) (rest := [.int (axPl x ((b.2.2.2.2 i).1)), .ref (a.2.2.2.2 i)]) ⟨hx, hb, hml, hown, hts⟩ (c_placeOf l G ax x ((b.2.2.2.2 i).2.1) (by first | assumption | omega | decide) H.size) (cwV 1 hts gX1_measure_X0_placeOf rfl rfl rfl (by decide +kernel) ⟨Nat.le_of_ble_eq_true rfl, Nat.le_of_ble_eq_true rfl⟩) (r_preV (ci := 0) (q0 := 0) hK hwc rfl rfl rfl) rfl rfl hl.1 rfl (lv_room (Nat.le_of_ble_eq_true rfl)) dX1_measure_37 ⟨Nat.le_of_ble_eq_true rfl, Nat.le_of_ble_eq_true rfl⟩) hwc hA rfl rfl (fun H locs hw => ?_)
  have hw : wW G A s.heap (wAx G ax x ++ (wAx G ay y ++ (wBd G a (b.1, b.2.1, b.2.2.1, b.2.2.2.1, (updB b.2.2.2.2 i ((b.2.2.2.2 i).1, (b.2.2.2.2 i).2.1, (b.2.2.2.2 i).2.2.1, (b.2.2.2.2 i).2.2.2.1, iMin (axPl x ((b.2.2.2.2 i).1)) (axPl x ((b.2.2.2.2 i).2.1)), (b.2.2.2.2 i).2.2.2.2.2.1, (b.2.2.2.2 i).2.2.2.2.2.2.1, (b.2.2.2.2 i).2.2.2.2.2.2.2.1, (b.2.2.2.2 i).2.2.2.2.2.2.2.2.1, (b.2.2.2.2 i).2.2.2.2.2.2.2.2.2)))))) H locs := hw
  refine va_mmax hx hb (hml.trans hl.1.symm) hown (hts _ wmX1_measure_meas1_7) (hts _ wmX1_measure_meas1_8) (hts _ wmX1_measure_meas1_4) (hts _ wmX1_measure_meas1_9) (Nat.le_of_ble_eq_true rfl) (Nat.le_of_ble_eq_true rfl) (Nat.le_of_ble_eq_true rfl) (Nat.le_of_ble_eq_true rfl) dX1_measure_40 ?_
  refine r_top (y := iMax (axPl x ((b.2.2.2.2 i).1)) (axPl x ((b.2.2.2.2 i).2.1))) rfl ?_
  refine r_put (ci := 1) (v := .int (iMax (axPl x ((b.2.2.2.2 i).1)) (axPl x ((b.2.2.2.2 i).2.1)))) (ty := .int) (C := RX1) (T := TX1) (N := 10) hx hb hts wiX1_measure_meas1_X1 tyX1 tyX1_ok nmX1 hown hK hw (12 + i) ((at_skip (n := 4) (j := 8 + i) rfl (by omega)).trans ((at_skip (n := 4) (j := 4 + i) rfl (by omega)).trans (bd_atu (by omega)))) rfl 5 (by decide) wmX1_measure_meas1_10 (fun _ h9 => h9) rfl (by decide +kernel) rfl rfl (Nat.le_of_ble_eq_true rfl) dX1_measure_43 (ws' := wAx G ax x ++ (wAx G ay y ++ (wBd G a (b.1, b.2.1, b.2.2.1, b.2.2.2.1, (updB b.2.2.2.2 i ((b.2.2.2.2 i).1, (b.2.2.2.2 i).2.1, (b.2.2.2.2 i).2.2.1, (b.2.2.2.2 i).2.2.2.1, iMin (axPl x ((b.2.2.2.2 i).1)) (axPl x ((b.2.2.2.2 i).2.1)), iMax (axPl x ((b.2.2.2.2 i).1)) (axPl x ((b.2.2.2.2 i).2.1)), (b.2.2.2.2 i).2.2.2.2.2.2.1, (b.2.2.2.2 i).2.2.2.2.2.2.2.1, (b.2.2.2.2 i).2.2.2.2.2.2.2.2.1, (b.2.2.2.2 i).2.2.2.2.2.2.2.2.2)))))) ((set_skip (n := 4) (j := 8 + i) rfl (by omega)).trans (congrArg (fun z => _ ++ z) ((set_skip (n := 4) (j := 4 + i) rfl (by omega)).trans (congrArg (fun z => _ ++ z) (bd_setu (G := G) (a := a) (h := b.1) (n := b.2.1) (xs := b.2.2.1) (ys := b.2.2.2.1) (T := b.2.2.2.2) (f := ((b.2.2.2.2 i).1, (b.2.2.2.2 i).2.1, (b.2.2.2.2 i).2.2.1, (b.2.2.2.2 i).2.2.2.1, iMin (axPl x ((b.2.2.2.2 i).1)) (axPl x ((b.2.2.2.2 i).2.1)), (b.2.2.2.2 i).2.2.2.2.2.1, (b.2.2.2.2 i).2.2.2.2.2.2.1, (b.2.2.2.2 i).2.2.2.2.2.2.2.1, (b.2.2.2.2 i).2.2.2.2.2.2.2.2.1, (b.2.2.2.2 i).2.2.2.2.2.2.2.2.2)) (f' := ((b.2.2.2.2 i).1, (b.2.2.2.2 i).2.1, (b.2.2.2.2 i).2.2.1, (b.2.2.2.2 i).2.2.2.1, iMin (axPl x ((b.2.2.2.2 i).1)) (axPl x ((b.2.2.2.2 i).2.1)), iMax (axPl x ((b.2.2.2.2 i).1)) (axPl x ((b.2.2.2.2 i).2.1)), (b.2.2.2.2 i).2.2.2.2.2.2.1, (b.2.2.2.2 i).2.2.2.2.2.2.2.1, (b.2.2.2.2 i).2.2.2.2.2.2.2.2.1, (b.2.2.2.2 i).2.2.2.2.2.2.2.2.2)) (v := i) (by omega)))))) (fun H locs hw => ?_)
  refine lv_aload_n hx hb dX1_measure_46 rfl (lv_at hl 0 rfl) ?_
  refine lv_aload_n hx hb dX1_measure_47 rfl (lv_at hl 2 rfl) ?_
  refine lv_aload_n hx hb dX1_measure_48 rfl (lv_at hl 0 rfl) ?_
  refine r_get (ci := 1) (v := .int (nI ((b.2.2.2.2 i).1))) (C := RX1) (T := TX1) (N := 10) hx hb hts wiX1_measure_meas1_X1 hown hK hw (12 + i) ((at_skip (n := 4) (j := 8 + i) rfl (by omega)).trans ((at_skip (n := 4) (j := 4 + i) rfl (by omega)).trans (bd_atu (by omega)))) rfl 0 (by decide) wmX1_measure_meas1_0 (fun _ h9 => h9) rfl dX1_measure_49 ?_
  have hwc : wW G A s.heap ((wAx G ax x) ++ ((wAx G ay y) ++ (wBd G a (b.1, b.2.1, b.2.2.1, b.2.2.2.1, (updB b.2.2.2.2 i ((b.2.2.2.2 i).1, (b.2.2.2.2 i).2.1, (b.2.2.2.2 i).2.2.1, (b.2.2.2.2 i).2.2.2.1, iMin (axPl x ((b.2.2.2.2 i).1)) (axPl x ((b.2.2.2.2 i).2.1)), iMax (axPl x ((b.2.2.2.2 i).1)) (axPl x ((b.2.2.2.2 i).2.1)), (b.2.2.2.2 i).2.2.2.2.2.2.1, (b.2.2.2.2 i).2.2.2.2.2.2.2.1, (b.2.2.2.2 i).2.2.2.2.2.2.2.2.1, (b.2.2.2.2 i).2.2.2.2.2.2.2.2.2)))))) H locs := hw
  refine r_calli (res := (axPl y ((b.2.2.2.2 i).1))) (u := wAx G ax x) (w := wAx G ay y) (v := wBd G a (b.1, b.2.1, b.2.2.1, b.2.2.2.1, (updB b.2.2.2.2 i ((b.2.2.2.2 i).1, (b.2.2.2.2 i).2.1, (b.2.2.2.2 i).2.2.1, (b.2.2.2.2 i).2.2.2.1, iMin (axPl x ((b.2.2.2.2 i).1)) (axPl x ((b.2.2.2.2 i).2.1)), iMax (axPl x ((b.2.2.2.2 i).1)) (axPl x ((b.2.2.2.2 i).2.1)), (b.2.2.2.2 i).2.2.2.2.2.2.1, (b.2.2.2.2 i).2.2.2.2.2.2.2.1, (b.2.2.2.2 i).2.2.2.2.2.2.2.2.1, (b.2.2.2.2 i).2.2.2.2.2.2.2.2.2)))) (va_runV (As := [.int (nI ((b.2.2.2.2 i).1))]) (rest := [.ref (a.2.2.2.2 i)]) ⟨hx, hb, hml, hown, hts⟩ (c_placeOf l G ay y ((b.2.2.2.2 i).1) (by first | assumption | omega | decide) H.size) (cwV 1 hts gX1_measure_X0_placeOf rfl rfl rfl (by decide +kernel) ⟨Nat.le_of_ble_eq_true rfl, Nat.le_of_ble_eq_true rfl⟩) (r_preV (ci := 0) (q0 := 4) hK hwc rfl rfl rfl) rfl rfl hl.1 rfl (lv_room (Nat.le_of_ble_eq_true rfl)) dX1_measure_52 ⟨Nat.le_of_ble_eq_true rfl, Nat.le_of_ble_eq_true rfl⟩) hwc hA rfl rfl (fun H locs hw => ?_)
  have hw : wW G A s.heap (wAx G ax x ++ (wAx G ay y ++ (wBd G a (b.1, b.2.1, b.2.2.1, b.2.2.2.1, (updB b.2.2.2.2 i ((b.2.2.2.2 i).1, (b.2.2.2.2 i).2.1, (b.2.2.2.2 i).2.2.1, (b.2.2.2.2 i).2.2.2.1, iMin (axPl x ((b.2.2.2.2 i).1)) (axPl x ((b.2.2.2.2 i).2.1)), iMax (axPl x ((b.2.2.2.2 i).1)) (axPl x ((b.2.2.2.2 i).2.1)), (b.2.2.2.2 i).2.2.2.2.2.2.1, (b.2.2.2.2 i).2.2.2.2.2.2.2.1, (b.2.2.2.2 i).2.2.2.2.2.2.2.2.1, (b.2.2.2.2 i).2.2.2.2.2.2.2.2.2)))))) H locs := hw
  refine lv_aload_n hx hb dX1_measure_55 rfl (lv_at hl 2 rfl) ?_
  refine lv_aload_n hx hb dX1_measure_56 rfl (lv_at hl 0 rfl) ?_
  refine r_get (ci := 1) (v := .int (nI ((b.2.2.2.2 i).2.1))) (C := RX1) (T := TX1) (N := 10) hx hb hts wiX1_measure_meas1_X1 hown hK hw (12 + i) ((at_skip (n := 4) (j := 8 + i) rfl (by omega)).trans ((at_skip (n := 4) (j := 4 + i) rfl (by omega)).trans (bd_atu (by omega)))) rfl 1 (by decide) wmX1_measure_meas1_1 (fun _ h9 => h9) rfl dX1_measure_57 ?_
  have hwc : wW G A s.heap ((wAx G ax x) ++ ((wAx G ay y) ++ (wBd G a (b.1, b.2.1, b.2.2.1, b.2.2.2.1, (updB b.2.2.2.2 i ((b.2.2.2.2 i).1, (b.2.2.2.2 i).2.1, (b.2.2.2.2 i).2.2.1, (b.2.2.2.2 i).2.2.2.1, iMin (axPl x ((b.2.2.2.2 i).1)) (axPl x ((b.2.2.2.2 i).2.1)), iMax (axPl x ((b.2.2.2.2 i).1)) (axPl x ((b.2.2.2.2 i).2.1)), (b.2.2.2.2 i).2.2.2.2.2.2.1, (b.2.2.2.2 i).2.2.2.2.2.2.2.1, (b.2.2.2.2 i).2.2.2.2.2.2.2.2.1, (b.2.2.2.2 i).2.2.2.2.2.2.2.2.2)))))) H locs := hw
  refine r_calli (res := (axPl y ((b.2.2.2.2 i).2.1))) (u := wAx G ax x) (w := wAx G ay y) (v := wBd G a (b.1, b.2.1, b.2.2.1, b.2.2.2.1, (updB b.2.2.2.2 i ((b.2.2.2.2 i).1, (b.2.2.2.2 i).2.1, (b.2.2.2.2 i).2.2.1, (b.2.2.2.2 i).2.2.2.1, iMin (axPl x ((b.2.2.2.2 i).1)) (axPl x ((b.2.2.2.2 i).2.1)), iMax (axPl x ((b.2.2.2.2 i).1)) (axPl x ((b.2.2.2.2 i).2.1)), (b.2.2.2.2 i).2.2.2.2.2.2.1, (b.2.2.2.2 i).2.2.2.2.2.2.2.1, (b.2.2.2.2 i).2.2.2.2.2.2.2.2.1, (b.2.2.2.2 i).2.2.2.2.2.2.2.2.2)))) (va_runV (As := [.int (nI ((b.2.2.2.2 i).2.1))]) (rest := [.int (axPl y ((b.2.2.2.2 i).1)), .ref (a.2.2.2.2 i)]) ⟨hx, hb, hml, hown, hts⟩ (c_placeOf l G ay y ((b.2.2.2.2 i).2.1) (by first | assumption | omega | decide) H.size) (cwV 1 hts gX1_measure_X0_placeOf rfl rfl rfl (by decide +kernel) ⟨Nat.le_of_ble_eq_true rfl, Nat.le_of_ble_eq_true rfl⟩) (r_preV (ci := 0) (q0 := 4) hK hwc rfl rfl rfl) rfl rfl hl.1 rfl (lv_room (Nat.le_of_ble_eq_true rfl)) dX1_measure_60 ⟨Nat.le_of_ble_eq_true rfl, Nat.le_of_ble_eq_true rfl⟩) hwc hA rfl rfl (fun H locs hw => ?_)
  have hw : wW G A s.heap (wAx G ax x ++ (wAx G ay y ++ (wBd G a (b.1, b.2.1, b.2.2.1, b.2.2.2.1, (updB b.2.2.2.2 i ((b.2.2.2.2 i).1, (b.2.2.2.2 i).2.1, (b.2.2.2.2 i).2.2.1, (b.2.2.2.2 i).2.2.2.1, iMin (axPl x ((b.2.2.2.2 i).1)) (axPl x ((b.2.2.2.2 i).2.1)), iMax (axPl x ((b.2.2.2.2 i).1)) (axPl x ((b.2.2.2.2 i).2.1)), (b.2.2.2.2 i).2.2.2.2.2.2.1, (b.2.2.2.2 i).2.2.2.2.2.2.2.1, (b.2.2.2.2 i).2.2.2.2.2.2.2.2.1, (b.2.2.2.2 i).2.2.2.2.2.2.2.2.2)))))) H locs := hw
  refine va_mmin hx hb (hml.trans hl.1.symm) hown (hts _ wmX1_measure_meas1_2) (hts _ wmX1_measure_meas1_3) (hts _ wmX1_measure_meas1_4) (hts _ wmX1_measure_meas1_5) (Nat.le_of_ble_eq_true rfl) (Nat.le_of_ble_eq_true rfl) (Nat.le_of_ble_eq_true rfl) (Nat.le_of_ble_eq_true rfl) dX1_measure_63 ?_
  refine r_top (y := iMin (axPl y ((b.2.2.2.2 i).1)) (axPl y ((b.2.2.2.2 i).2.1))) rfl ?_
  refine r_put (ci := 1) (v := .int (iMin (axPl y ((b.2.2.2.2 i).1)) (axPl y ((b.2.2.2.2 i).2.1)))) (ty := .int) (C := RX1) (T := TX1) (N := 10) hx hb hts wiX1_measure_meas1_X1 tyX1 tyX1_ok nmX1 hown hK hw (12 + i) ((at_skip (n := 4) (j := 8 + i) rfl (by omega)).trans ((at_skip (n := 4) (j := 4 + i) rfl (by omega)).trans (bd_atu (by omega)))) rfl 6 (by decide) wmX1_measure_meas1_11 (fun _ h9 => h9) rfl (by decide +kernel) rfl rfl (Nat.le_of_ble_eq_true rfl) dX1_measure_66 (ws' := wAx G ax x ++ (wAx G ay y ++ (wBd G a (b.1, b.2.1, b.2.2.1, b.2.2.2.1, (updB b.2.2.2.2 i ((b.2.2.2.2 i).1, (b.2.2.2.2 i).2.1, (b.2.2.2.2 i).2.2.1, (b.2.2.2.2 i).2.2.2.1, iMin (axPl x ((b.2.2.2.2 i).1)) (axPl x ((b.2.2.2.2 i).2.1)), iMax (axPl x ((b.2.2.2.2 i).1)) (axPl x ((b.2.2.2.2 i).2.1)), iMin (axPl y ((b.2.2.2.2 i).1)) (axPl y ((b.2.2.2.2 i).2.1)), (b.2.2.2.2 i).2.2.2.2.2.2.2.1, (b.2.2.2.2 i).2.2.2.2.2.2.2.2.1, (b.2.2.2.2 i).2.2.2.2.2.2.2.2.2)))))) ((set_skip (n := 4) (j := 8 + i) rfl (by omega)).trans (congrArg (fun z => _ ++ z) ((set_skip (n := 4) (j := 4 + i) rfl (by omega)).trans (congrArg (fun z => _ ++ z) (bd_setu (G := G) (a := a) (h := b.1) (n := b.2.1) (xs := b.2.2.1) (ys := b.2.2.2.1) (T := b.2.2.2.2) (f := ((b.2.2.2.2 i).1, (b.2.2.2.2 i).2.1, (b.2.2.2.2 i).2.2.1, (b.2.2.2.2 i).2.2.2.1, iMin (axPl x ((b.2.2.2.2 i).1)) (axPl x ((b.2.2.2.2 i).2.1)), iMax (axPl x ((b.2.2.2.2 i).1)) (axPl x ((b.2.2.2.2 i).2.1)), (b.2.2.2.2 i).2.2.2.2.2.2.1, (b.2.2.2.2 i).2.2.2.2.2.2.2.1, (b.2.2.2.2 i).2.2.2.2.2.2.2.2.1, (b.2.2.2.2 i).2.2.2.2.2.2.2.2.2)) (f' := ((b.2.2.2.2 i).1, (b.2.2.2.2 i).2.1, (b.2.2.2.2 i).2.2.1, (b.2.2.2.2 i).2.2.2.1, iMin (axPl x ((b.2.2.2.2 i).1)) (axPl x ((b.2.2.2.2 i).2.1)), iMax (axPl x ((b.2.2.2.2 i).1)) (axPl x ((b.2.2.2.2 i).2.1)), iMin (axPl y ((b.2.2.2.2 i).1)) (axPl y ((b.2.2.2.2 i).2.1)), (b.2.2.2.2 i).2.2.2.2.2.2.2.1, (b.2.2.2.2 i).2.2.2.2.2.2.2.2.1, (b.2.2.2.2 i).2.2.2.2.2.2.2.2.2)) (v := i) (by omega)))))) (fun H locs hw => ?_)
  refine lv_aload_n hx hb dX1_measure_69 rfl (lv_at hl 0 rfl) ?_
  refine lv_aload_n hx hb dX1_measure_70 rfl (lv_at hl 2 rfl) ?_
  refine lv_aload_n hx hb dX1_measure_71 rfl (lv_at hl 0 rfl) ?_
  refine r_get (ci := 1) (v := .int (nI ((b.2.2.2.2 i).1))) (C := RX1) (T := TX1) (N := 10) hx hb hts wiX1_measure_meas1_X1 hown hK hw (12 + i) ((at_skip (n := 4) (j := 8 + i) rfl (by omega)).trans ((at_skip (n := 4) (j := 4 + i) rfl (by omega)).trans (bd_atu (by omega)))) rfl 0 (by decide) wmX1_measure_meas1_0 (fun _ h9 => h9) rfl dX1_measure_72 ?_
  have hwc : wW G A s.heap ((wAx G ax x) ++ ((wAx G ay y) ++ (wBd G a (b.1, b.2.1, b.2.2.1, b.2.2.2.1, (updB b.2.2.2.2 i ((b.2.2.2.2 i).1, (b.2.2.2.2 i).2.1, (b.2.2.2.2 i).2.2.1, (b.2.2.2.2 i).2.2.2.1, iMin (axPl x ((b.2.2.2.2 i).1)) (axPl x ((b.2.2.2.2 i).2.1)), iMax (axPl x ((b.2.2.2.2 i).1)) (axPl x ((b.2.2.2.2 i).2.1)), iMin (axPl y ((b.2.2.2.2 i).1)) (axPl y ((b.2.2.2.2 i).2.1)), (b.2.2.2.2 i).2.2.2.2.2.2.2.1, (b.2.2.2.2 i).2.2.2.2.2.2.2.2.1, (b.2.2.2.2 i).2.2.2.2.2.2.2.2.2)))))) H locs := hw
  refine r_calli (res := (axPl y ((b.2.2.2.2 i).1))) (u := wAx G ax x) (w := wAx G ay y) (v := wBd G a (b.1, b.2.1, b.2.2.1, b.2.2.2.1, (updB b.2.2.2.2 i ((b.2.2.2.2 i).1, (b.2.2.2.2 i).2.1, (b.2.2.2.2 i).2.2.1, (b.2.2.2.2 i).2.2.2.1, iMin (axPl x ((b.2.2.2.2 i).1)) (axPl x ((b.2.2.2.2 i).2.1)), iMax (axPl x ((b.2.2.2.2 i).1)) (axPl x ((b.2.2.2.2 i).2.1)), iMin (axPl y ((b.2.2.2.2 i).1)) (axPl y ((b.2.2.2.2 i).2.1)), (b.2.2.2.2 i).2.2.2.2.2.2.2.1, (b.2.2.2.2 i).2.2.2.2.2.2.2.2.1, (b.2.2.2.2 i).2.2.2.2.2.2.2.2.2)))) (va_runV (As := [.int (nI ((b.2.2.2.2 i).1))]) (rest := [.ref (a.2.2.2.2 i)]) ⟨hx, hb, hml, hown, hts⟩ (c_placeOf l G ay y ((b.2.2.2.2 i).1) (by first | assumption | omega | decide) H.size) (cwV 1 hts gX1_measure_X0_placeOf rfl rfl rfl (by decide +kernel) ⟨Nat.le_of_ble_eq_true rfl, Nat.le_of_ble_eq_true rfl⟩) (r_preV (ci := 0) (q0 := 4) hK hwc rfl rfl rfl) rfl rfl hl.1 rfl (lv_room (Nat.le_of_ble_eq_true rfl)) dX1_measure_75 ⟨Nat.le_of_ble_eq_true rfl, Nat.le_of_ble_eq_true rfl⟩) hwc hA rfl rfl (fun H locs hw => ?_)
  have hw : wW G A s.heap (wAx G ax x ++ (wAx G ay y ++ (wBd G a (b.1, b.2.1, b.2.2.1, b.2.2.2.1, (updB b.2.2.2.2 i ((b.2.2.2.2 i).1, (b.2.2.2.2 i).2.1, (b.2.2.2.2 i).2.2.1, (b.2.2.2.2 i).2.2.2.1, iMin (axPl x ((b.2.2.2.2 i).1)) (axPl x ((b.2.2.2.2 i).2.1)), iMax (axPl x ((b.2.2.2.2 i).1)) (axPl x ((b.2.2.2.2 i).2.1)), iMin (axPl y ((b.2.2.2.2 i).1)) (axPl y ((b.2.2.2.2 i).2.1)), (b.2.2.2.2 i).2.2.2.2.2.2.2.1, (b.2.2.2.2 i).2.2.2.2.2.2.2.2.1, (b.2.2.2.2 i).2.2.2.2.2.2.2.2.2)))))) H locs := hw
  refine lv_aload_n hx hb dX1_measure_78 rfl (lv_at hl 2 rfl) ?_
  refine lv_aload_n hx hb dX1_measure_79 rfl (lv_at hl 0 rfl) ?_
  refine r_get (ci := 1) (v := .int (nI ((b.2.2.2.2 i).2.1))) (C := RX1) (T := TX1) (N := 10) hx hb hts wiX1_measure_meas1_X1 hown hK hw (12 + i) ((at_skip (n := 4) (j := 8 + i) rfl (by omega)).trans ((at_skip (n := 4) (j := 4 + i) rfl (by omega)).trans (bd_atu (by omega)))) rfl 1 (by decide) wmX1_measure_meas1_1 (fun _ h9 => h9) rfl dX1_measure_80 ?_
  have hwc : wW G A s.heap ((wAx G ax x) ++ ((wAx G ay y) ++ (wBd G a (b.1, b.2.1, b.2.2.1, b.2.2.2.1, (updB b.2.2.2.2 i ((b.2.2.2.2 i).1, (b.2.2.2.2 i).2.1, (b.2.2.2.2 i).2.2.1, (b.2.2.2.2 i).2.2.2.1, iMin (axPl x ((b.2.2.2.2 i).1)) (axPl x ((b.2.2.2.2 i).2.1)), iMax (axPl x ((b.2.2.2.2 i).1)) (axPl x ((b.2.2.2.2 i).2.1)), iMin (axPl y ((b.2.2.2.2 i).1)) (axPl y ((b.2.2.2.2 i).2.1)), (b.2.2.2.2 i).2.2.2.2.2.2.2.1, (b.2.2.2.2 i).2.2.2.2.2.2.2.2.1, (b.2.2.2.2 i).2.2.2.2.2.2.2.2.2)))))) H locs := hw
  refine r_calli (res := (axPl y ((b.2.2.2.2 i).2.1))) (u := wAx G ax x) (w := wAx G ay y) (v := wBd G a (b.1, b.2.1, b.2.2.1, b.2.2.2.1, (updB b.2.2.2.2 i ((b.2.2.2.2 i).1, (b.2.2.2.2 i).2.1, (b.2.2.2.2 i).2.2.1, (b.2.2.2.2 i).2.2.2.1, iMin (axPl x ((b.2.2.2.2 i).1)) (axPl x ((b.2.2.2.2 i).2.1)), iMax (axPl x ((b.2.2.2.2 i).1)) (axPl x ((b.2.2.2.2 i).2.1)), iMin (axPl y ((b.2.2.2.2 i).1)) (axPl y ((b.2.2.2.2 i).2.1)), (b.2.2.2.2 i).2.2.2.2.2.2.2.1, (b.2.2.2.2 i).2.2.2.2.2.2.2.2.1, (b.2.2.2.2 i).2.2.2.2.2.2.2.2.2)))) (va_runV (As := [.int (nI ((b.2.2.2.2 i).2.1))]) (rest := [.int (axPl y ((b.2.2.2.2 i).1)), .ref (a.2.2.2.2 i)]) ⟨hx, hb, hml, hown, hts⟩ (c_placeOf l G ay y ((b.2.2.2.2 i).2.1) (by first | assumption | omega | decide) H.size) (cwV 1 hts gX1_measure_X0_placeOf rfl rfl rfl (by decide +kernel) ⟨Nat.le_of_ble_eq_true rfl, Nat.le_of_ble_eq_true rfl⟩) (r_preV (ci := 0) (q0 := 4) hK hwc rfl rfl rfl) rfl rfl hl.1 rfl (lv_room (Nat.le_of_ble_eq_true rfl)) dX1_measure_83 ⟨Nat.le_of_ble_eq_true rfl, Nat.le_of_ble_eq_true rfl⟩) hwc hA rfl rfl (fun H locs hw => ?_)
  have hw : wW G A s.heap (wAx G ax x ++ (wAx G ay y ++ (wBd G a (b.1, b.2.1, b.2.2.1, b.2.2.2.1, (updB b.2.2.2.2 i ((b.2.2.2.2 i).1, (b.2.2.2.2 i).2.1, (b.2.2.2.2 i).2.2.1, (b.2.2.2.2 i).2.2.2.1, iMin (axPl x ((b.2.2.2.2 i).1)) (axPl x ((b.2.2.2.2 i).2.1)), iMax (axPl x ((b.2.2.2.2 i).1)) (axPl x ((b.2.2.2.2 i).2.1)), iMin (axPl y ((b.2.2.2.2 i).1)) (axPl y ((b.2.2.2.2 i).2.1)), (b.2.2.2.2 i).2.2.2.2.2.2.2.1, (b.2.2.2.2 i).2.2.2.2.2.2.2.2.1, (b.2.2.2.2 i).2.2.2.2.2.2.2.2.2)))))) H locs := hw
  refine va_mmax hx hb (hml.trans hl.1.symm) hown (hts _ wmX1_measure_meas1_7) (hts _ wmX1_measure_meas1_8) (hts _ wmX1_measure_meas1_4) (hts _ wmX1_measure_meas1_9) (Nat.le_of_ble_eq_true rfl) (Nat.le_of_ble_eq_true rfl) (Nat.le_of_ble_eq_true rfl) (Nat.le_of_ble_eq_true rfl) dX1_measure_86 ?_
  refine r_top (y := iMax (axPl y ((b.2.2.2.2 i).1)) (axPl y ((b.2.2.2.2 i).2.1))) rfl ?_
  refine r_put (ci := 1) (v := .int (iMax (axPl y ((b.2.2.2.2 i).1)) (axPl y ((b.2.2.2.2 i).2.1)))) (ty := .int) (C := RX1) (T := TX1) (N := 10) hx hb hts wiX1_measure_meas1_X1 tyX1 tyX1_ok nmX1 hown hK hw (12 + i) ((at_skip (n := 4) (j := 8 + i) rfl (by omega)).trans ((at_skip (n := 4) (j := 4 + i) rfl (by omega)).trans (bd_atu (by omega)))) rfl 7 (by decide) wmX1_measure_meas1_12 (fun _ h9 => h9) rfl (by decide +kernel) rfl rfl (Nat.le_of_ble_eq_true rfl) dX1_measure_89 (ws' := wAx G ax x ++ (wAx G ay y ++ (wBd G a (b.1, b.2.1, b.2.2.1, b.2.2.2.1, (updB b.2.2.2.2 i ((b.2.2.2.2 i).1, (b.2.2.2.2 i).2.1, (b.2.2.2.2 i).2.2.1, (b.2.2.2.2 i).2.2.2.1, iMin (axPl x ((b.2.2.2.2 i).1)) (axPl x ((b.2.2.2.2 i).2.1)), iMax (axPl x ((b.2.2.2.2 i).1)) (axPl x ((b.2.2.2.2 i).2.1)), iMin (axPl y ((b.2.2.2.2 i).1)) (axPl y ((b.2.2.2.2 i).2.1)), iMax (axPl y ((b.2.2.2.2 i).1)) (axPl y ((b.2.2.2.2 i).2.1)), (b.2.2.2.2 i).2.2.2.2.2.2.2.2.1, (b.2.2.2.2 i).2.2.2.2.2.2.2.2.2)))))) ((set_skip (n := 4) (j := 8 + i) rfl (by omega)).trans (congrArg (fun z => _ ++ z) ((set_skip (n := 4) (j := 4 + i) rfl (by omega)).trans (congrArg (fun z => _ ++ z) (bd_setu (G := G) (a := a) (h := b.1) (n := b.2.1) (xs := b.2.2.1) (ys := b.2.2.2.1) (T := b.2.2.2.2) (f := ((b.2.2.2.2 i).1, (b.2.2.2.2 i).2.1, (b.2.2.2.2 i).2.2.1, (b.2.2.2.2 i).2.2.2.1, iMin (axPl x ((b.2.2.2.2 i).1)) (axPl x ((b.2.2.2.2 i).2.1)), iMax (axPl x ((b.2.2.2.2 i).1)) (axPl x ((b.2.2.2.2 i).2.1)), iMin (axPl y ((b.2.2.2.2 i).1)) (axPl y ((b.2.2.2.2 i).2.1)), (b.2.2.2.2 i).2.2.2.2.2.2.2.1, (b.2.2.2.2 i).2.2.2.2.2.2.2.2.1, (b.2.2.2.2 i).2.2.2.2.2.2.2.2.2)) (f' := ((b.2.2.2.2 i).1, (b.2.2.2.2 i).2.1, (b.2.2.2.2 i).2.2.1, (b.2.2.2.2 i).2.2.2.1, iMin (axPl x ((b.2.2.2.2 i).1)) (axPl x ((b.2.2.2.2 i).2.1)), iMax (axPl x ((b.2.2.2.2 i).1)) (axPl x ((b.2.2.2.2 i).2.1)), iMin (axPl y ((b.2.2.2.2 i).1)) (axPl y ((b.2.2.2.2 i).2.1)), iMax (axPl y ((b.2.2.2.2 i).1)) (axPl y ((b.2.2.2.2 i).2.1)), (b.2.2.2.2 i).2.2.2.2.2.2.2.2.1, (b.2.2.2.2 i).2.2.2.2.2.2.2.2.2)) (v := i) (by omega)))))) (fun H locs hw => ?_)
  have join_119 : ∀ (v : Int32) (hv : v = bkFl (bkSides x y (b.2.2.2.2 i))) (hv01 : v = 0 ∨ v = 1) (H : Heap) (locs : List Loc) (ls : Array Slot), wW G A s.heap (wAx G ax x ++ (wAx G ay y ++ (wBd G a (b.1, b.2.1, b.2.2.1, b.2.2.2.1, (updB b.2.2.2.2 i ((b.2.2.2.2 i).1, (b.2.2.2.2 i).2.1, (b.2.2.2.2 i).2.2.1, (b.2.2.2.2 i).2.2.2.1, iMin (axPl x ((b.2.2.2.2 i).1)) (axPl x ((b.2.2.2.2 i).2.1)), iMax (axPl x ((b.2.2.2.2 i).1)) (axPl x ((b.2.2.2.2 i).2.1)), iMin (axPl y ((b.2.2.2.2 i).1)) (axPl y ((b.2.2.2.2 i).2.1)), iMax (axPl y ((b.2.2.2.2 i).1)) (axPl y ((b.2.2.2.2 i).2.1)), (b.2.2.2.2 i).2.2.2.2.2.2.2.2.1, (b.2.2.2.2 i).2.2.2.2.2.2.2.2.2)))))) H locs → lv_has ls 5 [(0, .ref (a.2.2.2.2 i)), (1, .ref ax.1), (2, .ref ay.1), (3, .int h)] → W p l e ({ frames := 1, cells := 0, slots := 0, locals := 24 }) s m [.ref (a.2.2.2.2 i), .ref ax.1, .ref ay.1, .int h].toArray below meth c H locs 0 0 (MQ below (va_Qv (fun (_ : Unit) => True) (fun _ t9 => wPost G A (wAx G ax x ++ (wAx G ay y ++ (wBd G a (b.1, b.2.1, b.2.2.1, b.2.2.2.1, (updB b.2.2.2.2 i (bkMeas1 x y h (b.2.2.2.2 i) (b.2.2.2.2 j))))))) t9) A) [.ref (a.2.2.2.2 i), .ref ax.1, .ref ay.1, .int h].toArray s 0 0 A) (F0 m 119 ls [.int v]) := by
    intro v hv hv01 H locs ls hw hl
    refine lv_istore (lv' := [(4, .int v), (0, .ref (a.2.2.2.2 i)), (1, .ref ax.1), (2, .ref ay.1), (3, .int h)]) hx hb dX1_measure_119 hl (by decide) rfl (fun ls hl => ?_)
    refine lv_aload_n hx hb dX1_measure_121 rfl (lv_at hl 1 rfl) ?_
    refine r_get (ci := 1) (v := .ref (a.2.2.2.2 j)) (C := RX1) (T := TX1) (N := 10) hx hb hts wiX1_measure_meas1_X1 hown hK hw (12 + i) ((at_skip (n := 4) (j := 8 + i) rfl (by omega)).trans ((at_skip (n := 4) (j := 4 + i) rfl (by omega)).trans (bd_atu (by omega)))) rfl 3 (by decide) wmX1_measure_meas1_13 (fun _ h9 => h9) (congrArg (fun o9 : Option Nat => some (va_rf (o9.map a.2.2.2.2))) ho) dX1_measure_122 ?_
    refine lv_ifnonnull (tgt := 142) hx hb dX1_measure_125 (by decide) ?_
    refine lv_aload_n hx hb dX1_measure_142 rfl (lv_at hl 1 rfl) ?_
    refine lv_aload_n hx hb dX1_measure_143 rfl (lv_at hl 1 rfl) ?_
    refine r_get (ci := 1) (v := .ref (a.2.2.2.2 j)) (C := RX1) (T := TX1) (N := 10) hx hb hts wiX1_measure_meas1_X1 hown hK hw (12 + i) ((at_skip (n := 4) (j := 8 + i) rfl (by omega)).trans ((at_skip (n := 4) (j := 4 + i) rfl (by omega)).trans (bd_atu (by omega)))) rfl 3 (by decide) wmX1_measure_meas1_13 (fun _ h9 => h9) (congrArg (fun o9 : Option Nat => some (va_rf (o9.map a.2.2.2.2))) ho) dX1_measure_144 ?_
    refine r_get (ci := 1) (v := .int ((b.2.2.2.2 j).2.2.2.2.2.2.2.2.1)) (C := RX1) (T := TX1) (N := 10) hx hb hts wiX1_measure_meas1_X1 hown hK hw (12 + j) ((at_skip (n := 4) (j := 8 + j) rfl (by omega)).trans ((at_skip (n := 4) (j := 4 + j) rfl (by omega)).trans (bd_atn (by omega) (by first | assumption | omega)))) rfl 8 (by decide) wmX1_measure_meas1_14 (fun _ h9 => h9) rfl dX1_measure_147 ?_
    refine lv_aload_n hx hb dX1_measure_150 rfl (lv_at hl 1 rfl) ?_
    refine r_get (ci := 1) (v := .int ((b.2.2.2.2 i).2.2.1)) (C := RX1) (T := TX1) (N := 10) hx hb hts wiX1_measure_meas1_X1 hown hK hw (12 + i) ((at_skip (n := 4) (j := 8 + i) rfl (by omega)).trans ((at_skip (n := 4) (j := 4 + i) rfl (by omega)).trans (bd_atu (by omega)))) rfl 2 (by decide) wmX1_measure_meas1_15 (fun _ h9 => h9) rfl dX1_measure_151 ?_
    refine lv_iadd hx hb dX1_measure_154 ?_
    refine r_put (ci := 1) (v := .int (((b.2.2.2.2 j).2.2.2.2.2.2.2.2.1) + ((b.2.2.2.2 i).2.2.1))) (ty := .int) (C := RX1) (T := TX1) (N := 10) hx hb hts wiX1_measure_meas1_X1 tyX1 tyX1_ok nmX1 hown hK hw (12 + i) ((at_skip (n := 4) (j := 8 + i) rfl (by omega)).trans ((at_skip (n := 4) (j := 4 + i) rfl (by omega)).trans (bd_atu (by omega)))) rfl 8 (by decide) wmX1_measure_meas1_14 (fun _ h9 => h9) rfl (by decide +kernel) rfl rfl (Nat.le_of_ble_eq_true rfl) dX1_measure_155 (ws' := wAx G ax x ++ (wAx G ay y ++ (wBd G a (b.1, b.2.1, b.2.2.1, b.2.2.2.1, (updB b.2.2.2.2 i ((b.2.2.2.2 i).1, (b.2.2.2.2 i).2.1, (b.2.2.2.2 i).2.2.1, (b.2.2.2.2 i).2.2.2.1, iMin (axPl x ((b.2.2.2.2 i).1)) (axPl x ((b.2.2.2.2 i).2.1)), iMax (axPl x ((b.2.2.2.2 i).1)) (axPl x ((b.2.2.2.2 i).2.1)), iMin (axPl y ((b.2.2.2.2 i).1)) (axPl y ((b.2.2.2.2 i).2.1)), iMax (axPl y ((b.2.2.2.2 i).1)) (axPl y ((b.2.2.2.2 i).2.1)), ((b.2.2.2.2 j).2.2.2.2.2.2.2.2.1) + ((b.2.2.2.2 i).2.2.1), (b.2.2.2.2 i).2.2.2.2.2.2.2.2.2)))))) ((set_skip (n := 4) (j := 8 + i) rfl (by omega)).trans (congrArg (fun z => _ ++ z) ((set_skip (n := 4) (j := 4 + i) rfl (by omega)).trans (congrArg (fun z => _ ++ z) (bd_setu (G := G) (a := a) (h := b.1) (n := b.2.1) (xs := b.2.2.1) (ys := b.2.2.2.1) (T := b.2.2.2.2) (f := ((b.2.2.2.2 i).1, (b.2.2.2.2 i).2.1, (b.2.2.2.2 i).2.2.1, (b.2.2.2.2 i).2.2.2.1, iMin (axPl x ((b.2.2.2.2 i).1)) (axPl x ((b.2.2.2.2 i).2.1)), iMax (axPl x ((b.2.2.2.2 i).1)) (axPl x ((b.2.2.2.2 i).2.1)), iMin (axPl y ((b.2.2.2.2 i).1)) (axPl y ((b.2.2.2.2 i).2.1)), iMax (axPl y ((b.2.2.2.2 i).1)) (axPl y ((b.2.2.2.2 i).2.1)), (b.2.2.2.2 i).2.2.2.2.2.2.2.2.1, (b.2.2.2.2 i).2.2.2.2.2.2.2.2.2)) (f' := ((b.2.2.2.2 i).1, (b.2.2.2.2 i).2.1, (b.2.2.2.2 i).2.2.1, (b.2.2.2.2 i).2.2.2.1, iMin (axPl x ((b.2.2.2.2 i).1)) (axPl x ((b.2.2.2.2 i).2.1)), iMax (axPl x ((b.2.2.2.2 i).1)) (axPl x ((b.2.2.2.2 i).2.1)), iMin (axPl y ((b.2.2.2.2 i).1)) (axPl y ((b.2.2.2.2 i).2.1)), iMax (axPl y ((b.2.2.2.2 i).1)) (axPl y ((b.2.2.2.2 i).2.1)), ((b.2.2.2.2 j).2.2.2.2.2.2.2.2.1) + ((b.2.2.2.2 i).2.2.1), (b.2.2.2.2 i).2.2.2.2.2.2.2.2.2)) (v := i) (by omega)))))) (fun H locs hw => ?_)
    have join_198 : ∀ (z : Int32) (hz : z = bkFail v (bkSides x y (b.2.2.2.2 i)) (b.2.2.2.2 j) ((b.2.2.2.2 j).2.2.2.2.2.2.2.2.1 + (b.2.2.2.2 i).2.2.1) h) (hw01 : z = 0 ∨ z = 1) (H : Heap) (locs : List Loc) (ls : Array Slot), wW G A s.heap (wAx G ax x ++ (wAx G ay y ++ (wBd G a (b.1, b.2.1, b.2.2.1, b.2.2.2.1, (updB b.2.2.2.2 i ((b.2.2.2.2 i).1, (b.2.2.2.2 i).2.1, (b.2.2.2.2 i).2.2.1, (b.2.2.2.2 i).2.2.2.1, iMin (axPl x ((b.2.2.2.2 i).1)) (axPl x ((b.2.2.2.2 i).2.1)), iMax (axPl x ((b.2.2.2.2 i).1)) (axPl x ((b.2.2.2.2 i).2.1)), iMin (axPl y ((b.2.2.2.2 i).1)) (axPl y ((b.2.2.2.2 i).2.1)), iMax (axPl y ((b.2.2.2.2 i).1)) (axPl y ((b.2.2.2.2 i).2.1)), ((b.2.2.2.2 j).2.2.2.2.2.2.2.2.1) + ((b.2.2.2.2 i).2.2.1), (b.2.2.2.2 i).2.2.2.2.2.2.2.2.2)))))) H locs → lv_has ls 5 [(0, .ref (a.2.2.2.2 i)), (1, .ref ax.1), (2, .ref ay.1), (3, .int h), (4, .int v)] → W p l e ({ frames := 1, cells := 0, slots := 0, locals := 24 }) s m [.ref (a.2.2.2.2 i), .ref ax.1, .ref ay.1, .int h].toArray below meth c H locs 0 0 (MQ below (va_Qv (fun (_ : Unit) => True) (fun _ t9 => wPost G A (wAx G ax x ++ (wAx G ay y ++ (wBd G a (b.1, b.2.1, b.2.2.1, b.2.2.2.1, (updB b.2.2.2.2 i (bkMeas1 x y h (b.2.2.2.2 i) (b.2.2.2.2 j))))))) t9) A) [.ref (a.2.2.2.2 i), .ref ax.1, .ref ay.1, .int h].toArray s 0 0 A) (F0 m 198 ls [.int z, .ref (a.2.2.2.2 i)]) := by
      intro z hz hw01 H locs ls hw hl
      refine r_put (ci := 1) (v := .int z) (ty := .boolean) (C := RX1) (T := TX1) (N := 10) hx hb hts wiX1_measure_meas1_X1 tyX1 tyX1_ok nmX1 hown hK hw (12 + i) ((at_skip (n := 4) (j := 8 + i) rfl (by omega)).trans ((at_skip (n := 4) (j := 4 + i) rfl (by omega)).trans (bd_atu (by omega)))) rfl 9 (by decide) wmX1_measure_meas1_16 (fun _ h9 => h9) rfl (by decide +kernel) (zb_nar hw01) (zb_fit hw01) (Nat.le_of_ble_eq_true rfl) dX1_measure_198 (ws' := wAx G ax x ++ (wAx G ay y ++ (wBd G a (b.1, b.2.1, b.2.2.1, b.2.2.2.1, (updB b.2.2.2.2 i ((b.2.2.2.2 i).1, (b.2.2.2.2 i).2.1, (b.2.2.2.2 i).2.2.1, (b.2.2.2.2 i).2.2.2.1, iMin (axPl x ((b.2.2.2.2 i).1)) (axPl x ((b.2.2.2.2 i).2.1)), iMax (axPl x ((b.2.2.2.2 i).1)) (axPl x ((b.2.2.2.2 i).2.1)), iMin (axPl y ((b.2.2.2.2 i).1)) (axPl y ((b.2.2.2.2 i).2.1)), iMax (axPl y ((b.2.2.2.2 i).1)) (axPl y ((b.2.2.2.2 i).2.1)), ((b.2.2.2.2 j).2.2.2.2.2.2.2.2.1) + ((b.2.2.2.2 i).2.2.1), z)))))) ((set_skip (n := 4) (j := 8 + i) rfl (by omega)).trans (congrArg (fun z => _ ++ z) ((set_skip (n := 4) (j := 4 + i) rfl (by omega)).trans (congrArg (fun z => _ ++ z) (bd_setu (G := G) (a := a) (h := b.1) (n := b.2.1) (xs := b.2.2.1) (ys := b.2.2.2.1) (T := b.2.2.2.2) (f := ((b.2.2.2.2 i).1, (b.2.2.2.2 i).2.1, (b.2.2.2.2 i).2.2.1, (b.2.2.2.2 i).2.2.2.1, iMin (axPl x ((b.2.2.2.2 i).1)) (axPl x ((b.2.2.2.2 i).2.1)), iMax (axPl x ((b.2.2.2.2 i).1)) (axPl x ((b.2.2.2.2 i).2.1)), iMin (axPl y ((b.2.2.2.2 i).1)) (axPl y ((b.2.2.2.2 i).2.1)), iMax (axPl y ((b.2.2.2.2 i).1)) (axPl y ((b.2.2.2.2 i).2.1)), ((b.2.2.2.2 j).2.2.2.2.2.2.2.2.1) + ((b.2.2.2.2 i).2.2.1), (b.2.2.2.2 i).2.2.2.2.2.2.2.2.2)) (f' := ((b.2.2.2.2 i).1, (b.2.2.2.2 i).2.1, (b.2.2.2.2 i).2.2.1, (b.2.2.2.2 i).2.2.2.1, iMin (axPl x ((b.2.2.2.2 i).1)) (axPl x ((b.2.2.2.2 i).2.1)), iMax (axPl x ((b.2.2.2.2 i).1)) (axPl x ((b.2.2.2.2 i).2.1)), iMin (axPl y ((b.2.2.2.2 i).1)) (axPl y ((b.2.2.2.2 i).2.1)), iMax (axPl y ((b.2.2.2.2 i).1)) (axPl y ((b.2.2.2.2 i).2.1)), ((b.2.2.2.2 j).2.2.2.2.2.2.2.2.1) + ((b.2.2.2.2 i).2.2.1), z)) (v := i) (by omega)))))) (fun H locs hw => ?_)
      exact m_vret hx hb hr hlocks hK hw (Nat.le_of_ble_eq_true rfl) (Nat.le_of_ble_eq_true rfl) dX1_measure_201 (show wAx G ax x ++ (wAx G ay y ++ (wBd G a (b.1, b.2.1, b.2.2.1, b.2.2.2.1, (updB b.2.2.2.2 i ((b.2.2.2.2 i).1, (b.2.2.2.2 i).2.1, (b.2.2.2.2 i).2.2.1, (b.2.2.2.2 i).2.2.2.1, iMin (axPl x ((b.2.2.2.2 i).1)) (axPl x ((b.2.2.2.2 i).2.1)), iMax (axPl x ((b.2.2.2.2 i).1)) (axPl x ((b.2.2.2.2 i).2.1)), iMin (axPl y ((b.2.2.2.2 i).1)) (axPl y ((b.2.2.2.2 i).2.1)), iMax (axPl y ((b.2.2.2.2 i).1)) (axPl y ((b.2.2.2.2 i).2.1)), ((b.2.2.2.2 j).2.2.2.2.2.2.2.2.1) + ((b.2.2.2.2 i).2.2.1), z))))) = wAx G ax x ++ (wAx G ay y ++ (wBd G a (b.1, b.2.1, b.2.2.1, b.2.2.2.1, (updB b.2.2.2.2 i (bkMeas1 x y h (b.2.2.2.2 i) (b.2.2.2.2 j)))))) by subst hz; subst hv; rfl)
    refine lv_aload_n hx hb dX1_measure_158 rfl (lv_at hl 1 rfl) ?_
    refine lv_iload hx hb dX1_measure_159 (lv_at hl 0 rfl) ?_
    refine lv_if_ne (tgt := 193) hx hb dX1_measure_161 (by decide) (fun c_161 => ?_) (fun c_161 => ?_)
    · refine lv_iconst (v := 1) hx hb dX1_measure_193 (by decide) ?_
      refine lv_goto (tgt := 198) hx hb dX1_measure_194 (by decide) ?_
      exact join_198 1 (by exact bkFail_1 c_161) (by decide) _ _ _ hw (lv_sub hl [1, 2, 3, 4, 0] rfl)
    · refine lv_aload_n hx hb dX1_measure_164 rfl (lv_at hl 1 rfl) ?_
      refine r_get (ci := 1) (v := .ref (a.2.2.2.2 j)) (C := RX1) (T := TX1) (N := 10) hx hb hts wiX1_measure_meas1_X1 hown hK hw (12 + i) ((at_skip (n := 4) (j := 8 + i) rfl (by omega)).trans ((at_skip (n := 4) (j := 4 + i) rfl (by omega)).trans (bd_atu (by omega)))) rfl 3 (by decide) wmX1_measure_meas1_13 (fun _ h9 => h9) (congrArg (fun o9 : Option Nat => some (va_rf (o9.map a.2.2.2.2))) ho) dX1_measure_165 ?_
      refine r_get (ci := 1) (v := .int ((b.2.2.2.2 j).2.2.2.2.2.2.2.2.2)) (C := RX1) (T := TX1) (N := 10) hx hb hts wiX1_measure_meas1_X1 hown hK hw (12 + j) ((at_skip (n := 4) (j := 8 + j) rfl (by omega)).trans ((at_skip (n := 4) (j := 4 + j) rfl (by omega)).trans (bd_atn (by omega) (by first | assumption | omega)))) rfl 9 (by decide) wmX1_measure_meas1_16 (fun _ h9 => h9) rfl dX1_measure_168 ?_
      refine lv_if_ne (tgt := 193) hx hb dX1_measure_171 (by decide) (fun c_171 => ?_) (fun c_171 => ?_)
      · refine lv_iconst (v := 1) hx hb dX1_measure_193 (by decide) ?_
        refine lv_goto (tgt := 198) hx hb dX1_measure_194 (by decide) ?_
        exact join_198 1 (by exact bkFail_2 c_161 c_171) (by decide) _ _ _ hw (lv_sub hl [1, 2, 3, 4, 0] rfl)
      · refine lv_aload_n hx hb dX1_measure_174 rfl (lv_at hl 1 rfl) ?_
        refine lv_aload_n hx hb dX1_measure_175 rfl (lv_at hl 1 rfl) ?_
        refine r_get (ci := 1) (v := .ref (a.2.2.2.2 j)) (C := RX1) (T := TX1) (N := 10) hx hb hts wiX1_measure_meas1_X1 hown hK hw (12 + i) ((at_skip (n := 4) (j := 8 + i) rfl (by omega)).trans ((at_skip (n := 4) (j := 4 + i) rfl (by omega)).trans (bd_atu (by omega)))) rfl 3 (by decide) wmX1_measure_meas1_13 (fun _ h9 => h9) (congrArg (fun o9 : Option Nat => some (va_rf (o9.map a.2.2.2.2))) ho) dX1_measure_176 ?_
        have hwc : wW G A s.heap ((wAx G ax x ++ (wAx G ay y)) ++ ((wBd G a (b.1, b.2.1, b.2.2.1, b.2.2.2.1, (updB b.2.2.2.2 i ((b.2.2.2.2 i).1, (b.2.2.2.2 i).2.1, (b.2.2.2.2 i).2.2.1, (b.2.2.2.2 i).2.2.2.1, iMin (axPl x ((b.2.2.2.2 i).1)) (axPl x ((b.2.2.2.2 i).2.1)), iMax (axPl x ((b.2.2.2.2 i).1)) (axPl x ((b.2.2.2.2 i).2.1)), iMin (axPl y ((b.2.2.2.2 i).1)) (axPl y ((b.2.2.2.2 i).2.1)), iMax (axPl y ((b.2.2.2.2 i).1)) (axPl y ((b.2.2.2.2 i).2.1)), ((b.2.2.2.2 j).2.2.2.2.2.2.2.2.1) + ((b.2.2.2.2 i).2.2.1), (b.2.2.2.2 i).2.2.2.2.2.2.2.2.2)))) ++ ([] : va_W))) H locs := hw
        have hrv : (wAx G ax x ++ (wAx G ay y ++ (wBd G a (b.1, b.2.1, b.2.2.1, b.2.2.2.1, (updB b.2.2.2.2 i ((b.2.2.2.2 i).1, (b.2.2.2.2 i).2.1, (b.2.2.2.2 i).2.2.1, (b.2.2.2.2 i).2.2.2.1, iMin (axPl x ((b.2.2.2.2 i).1)) (axPl x ((b.2.2.2.2 i).2.1)), iMax (axPl x ((b.2.2.2.2 i).1)) (axPl x ((b.2.2.2.2 i).2.1)), iMin (axPl y ((b.2.2.2.2 i).1)) (axPl y ((b.2.2.2.2 i).2.1)), iMax (axPl y ((b.2.2.2.2 i).1)) (axPl y ((b.2.2.2.2 i).2.1)), ((b.2.2.2.2 j).2.2.2.2.2.2.2.2.1) + ((b.2.2.2.2 i).2.2.1), (b.2.2.2.2 i).2.2.2.2.2.2.2.2.2))))))[(12 + i)]? = some (a.2.2.2.2 i, cBk a.2.2.2.2 ((b.2.2.2.2 i).1, (b.2.2.2.2 i).2.1, (b.2.2.2.2 i).2.2.1, (b.2.2.2.2 i).2.2.2.1, iMin (axPl x ((b.2.2.2.2 i).1)) (axPl x ((b.2.2.2.2 i).2.1)), iMax (axPl x ((b.2.2.2.2 i).1)) (axPl x ((b.2.2.2.2 i).2.1)), iMin (axPl y ((b.2.2.2.2 i).1)) (axPl y ((b.2.2.2.2 i).2.1)), iMax (axPl y ((b.2.2.2.2 i).1)) (axPl y ((b.2.2.2.2 i).2.1)), ((b.2.2.2.2 j).2.2.2.2.2.2.2.2.1) + ((b.2.2.2.2 i).2.2.1), (b.2.2.2.2 i).2.2.2.2.2.2.2.2.2)) := (at_skip (n := 4) (j := 8 + i) rfl (by omega)).trans ((at_skip (n := 4) (j := 4 + i) rfl (by omega)).trans (bd_atu (by omega)))
        refine r_calli (res := (bkLies ((b.1, b.2.1, b.2.2.1, b.2.2.2.1, (updB b.2.2.2.2 i ((b.2.2.2.2 i).1, (b.2.2.2.2 i).2.1, (b.2.2.2.2 i).2.2.1, (b.2.2.2.2 i).2.2.2.1, iMin (axPl x ((b.2.2.2.2 i).1)) (axPl x ((b.2.2.2.2 i).2.1)), iMax (axPl x ((b.2.2.2.2 i).1)) (axPl x ((b.2.2.2.2 i).2.1)), iMin (axPl y ((b.2.2.2.2 i).1)) (axPl y ((b.2.2.2.2 i).2.1)), iMax (axPl y ((b.2.2.2.2 i).1)) (axPl y ((b.2.2.2.2 i).2.1)), ((b.2.2.2.2 j).2.2.2.2.2.2.2.2.1) + ((b.2.2.2.2 i).2.2.1), (b.2.2.2.2 i).2.2.2.2.2.2.2.2.2))).2.2.2.2 i) ((b.1, b.2.1, b.2.2.1, b.2.2.2.1, (updB b.2.2.2.2 i ((b.2.2.2.2 i).1, (b.2.2.2.2 i).2.1, (b.2.2.2.2 i).2.2.1, (b.2.2.2.2 i).2.2.2.1, iMin (axPl x ((b.2.2.2.2 i).1)) (axPl x ((b.2.2.2.2 i).2.1)), iMax (axPl x ((b.2.2.2.2 i).1)) (axPl x ((b.2.2.2.2 i).2.1)), iMin (axPl y ((b.2.2.2.2 i).1)) (axPl y ((b.2.2.2.2 i).2.1)), iMax (axPl y ((b.2.2.2.2 i).1)) (axPl y ((b.2.2.2.2 i).2.1)), ((b.2.2.2.2 j).2.2.2.2.2.2.2.2.1) + ((b.2.2.2.2 i).2.2.1), (b.2.2.2.2 i).2.2.2.2.2.2.2.2.2))).2.2.2.2 j))) (u := wAx G ax x ++ (wAx G ay y)) (w := wBd G a (b.1, b.2.1, b.2.2.1, b.2.2.2.1, (updB b.2.2.2.2 i ((b.2.2.2.2 i).1, (b.2.2.2.2 i).2.1, (b.2.2.2.2 i).2.2.1, (b.2.2.2.2 i).2.2.2.1, iMin (axPl x ((b.2.2.2.2 i).1)) (axPl x ((b.2.2.2.2 i).2.1)), iMax (axPl x ((b.2.2.2.2 i).1)) (axPl x ((b.2.2.2.2 i).2.1)), iMin (axPl y ((b.2.2.2.2 i).1)) (axPl y ((b.2.2.2.2 i).2.1)), iMax (axPl y ((b.2.2.2.2 i).1)) (axPl y ((b.2.2.2.2 i).2.1)), ((b.2.2.2.2 j).2.2.2.2.2.2.2.2.1) + ((b.2.2.2.2 i).2.2.1), (b.2.2.2.2 i).2.2.2.2.2.2.2.2.2)))) (v := ([] : va_W)) (va_runV (As := [.ref (a.2.2.2.2 j)]) (rest := [.ref (a.2.2.2.2 i)]) ⟨hx, hb, hml, hown, hts⟩ (c_lies l G a (b.1, b.2.1, b.2.2.1, b.2.2.2.1, (updB b.2.2.2.2 i ((b.2.2.2.2 i).1, (b.2.2.2.2 i).2.1, (b.2.2.2.2 i).2.2.1, (b.2.2.2.2 i).2.2.2.1, iMin (axPl x ((b.2.2.2.2 i).1)) (axPl x ((b.2.2.2.2 i).2.1)), iMax (axPl x ((b.2.2.2.2 i).1)) (axPl x ((b.2.2.2.2 i).2.1)), iMin (axPl y ((b.2.2.2.2 i).1)) (axPl y ((b.2.2.2.2 i).2.1)), iMax (axPl y ((b.2.2.2.2 i).1)) (axPl y ((b.2.2.2.2 i).2.1)), ((b.2.2.2.2 j).2.2.2.2.2.2.2.2.1) + ((b.2.2.2.2 i).2.2.1), (b.2.2.2.2 i).2.2.2.2.2.2.2.2.2))) i j (by first | assumption | omega | decide) (by first | assumption | omega | decide) H.size) (cwV 1 hts gX1_measure_X1_liesIn rfl rfl rfl (by decide +kernel) ⟨Nat.le_of_ble_eq_true rfl, Nat.le_of_ble_eq_true rfl⟩) (r_preV (ci := 1) (q0 := (12 + i)) hK hwc hrv rfl rfl) rfl rfl hl.1 rfl (lv_room (Nat.le_of_ble_eq_true rfl)) dX1_measure_179 ⟨Nat.le_of_ble_eq_true rfl, Nat.le_of_ble_eq_true rfl⟩) hwc hA rfl rfl (fun H locs hw => ?_)
        have hw : wW G A s.heap (wAx G ax x ++ (wAx G ay y ++ (wBd G a (b.1, b.2.1, b.2.2.1, b.2.2.2.1, (updB b.2.2.2.2 i ((b.2.2.2.2 i).1, (b.2.2.2.2 i).2.1, (b.2.2.2.2 i).2.2.1, (b.2.2.2.2 i).2.2.2.1, iMin (axPl x ((b.2.2.2.2 i).1)) (axPl x ((b.2.2.2.2 i).2.1)), iMax (axPl x ((b.2.2.2.2 i).1)) (axPl x ((b.2.2.2.2 i).2.1)), iMin (axPl y ((b.2.2.2.2 i).1)) (axPl y ((b.2.2.2.2 i).2.1)), iMax (axPl y ((b.2.2.2.2 i).1)) (axPl y ((b.2.2.2.2 i).2.1)), ((b.2.2.2.2 j).2.2.2.2.2.2.2.2.1) + ((b.2.2.2.2 i).2.2.1), (b.2.2.2.2 i).2.2.2.2.2.2.2.2.2)))))) H locs := hw
        refine r_top (y := bkLies (bkSides x y (b.2.2.2.2 i)) (b.2.2.2.2 j)) (by show bkLies (updB _ _ _ i) (updB _ _ _ j) = _; rw [updB_s, updB_n hij]; rfl) ?_
        refine lv_if_eq (tgt := 193) hx hb dX1_measure_182 (by decide) (fun c_182 => ?_) (fun c_182 => ?_)
        · refine lv_iconst (v := 1) hx hb dX1_measure_193 (by decide) ?_
          refine lv_goto (tgt := 198) hx hb dX1_measure_194 (by decide) ?_
          exact join_198 1 (by exact bkFail_3 c_161 c_171 c_182) (by decide) _ _ _ hw (lv_sub hl [1, 2, 3, 4, 0] rfl)
        · refine lv_aload_n hx hb dX1_measure_185 rfl (lv_at hl 1 rfl) ?_
          refine r_get (ci := 1) (v := .int (((b.2.2.2.2 j).2.2.2.2.2.2.2.2.1) + ((b.2.2.2.2 i).2.2.1))) (C := RX1) (T := TX1) (N := 10) hx hb hts wiX1_measure_meas1_X1 hown hK hw (12 + i) ((at_skip (n := 4) (j := 8 + i) rfl (by omega)).trans ((at_skip (n := 4) (j := 4 + i) rfl (by omega)).trans (bd_atu (by omega)))) rfl 8 (by decide) wmX1_measure_meas1_14 (fun _ h9 => h9) rfl dX1_measure_186 ?_
          refine lv_iload_n hx hb dX1_measure_189 rfl (lv_at hl 4 rfl) ?_
          refine lv_icmp_lt (tgt := 197) hx hb dX1_measure_190 (by decide) (fun c_190 => ?_) (fun c_190 => ?_)
          · refine lv_iconst (v := 0) hx hb dX1_measure_197 (by decide) ?_
            exact join_198 0 (by exact bkFail_4 c_161 c_171 c_182 c_190) (by decide) _ _ _ hw (lv_sub hl [1, 2, 3, 4, 0] rfl)
          · refine lv_iconst (v := 1) hx hb dX1_measure_193 (by decide) ?_
            refine lv_goto (tgt := 198) hx hb dX1_measure_194 (by decide) ?_
            exact join_198 1 (by exact bkFail_5 c_161 c_171 c_182 c_190) (by decide) _ _ _ hw (lv_sub hl [1, 2, 3, 4, 0] rfl)
  refine lv_aload_n hx hb dX1_measure_92 rfl (lv_at hl 0 rfl) ?_
  refine r_get (ci := 1) (v := .int (iMin (axPl x ((b.2.2.2.2 i).1)) (axPl x ((b.2.2.2.2 i).2.1)))) (C := RX1) (T := TX1) (N := 10) hx hb hts wiX1_measure_meas1_X1 hown hK hw (12 + i) ((at_skip (n := 4) (j := 8 + i) rfl (by omega)).trans ((at_skip (n := 4) (j := 4 + i) rfl (by omega)).trans (bd_atu (by omega)))) rfl 4 (by decide) wmX1_measure_meas1_6 (fun _ h9 => h9) rfl dX1_measure_93 ?_
  refine lv_aload_n hx hb dX1_measure_96 rfl (lv_at hl 0 rfl) ?_
  refine r_get (ci := 1) (v := .int (iMax (axPl x ((b.2.2.2.2 i).1)) (axPl x ((b.2.2.2.2 i).2.1)))) (C := RX1) (T := TX1) (N := 10) hx hb hts wiX1_measure_meas1_X1 hown hK hw (12 + i) ((at_skip (n := 4) (j := 8 + i) rfl (by omega)).trans ((at_skip (n := 4) (j := 4 + i) rfl (by omega)).trans (bd_atu (by omega)))) rfl 5 (by decide) wmX1_measure_meas1_10 (fun _ h9 => h9) rfl dX1_measure_97 ?_
  refine lv_icmp_eq (tgt := 114) hx hb dX1_measure_100 (by decide) (fun c_100 => ?_) (fun c_100 => ?_)
  · refine lv_iconst (v := 1) hx hb dX1_measure_114 (by decide) ?_
    refine lv_goto (tgt := 119) hx hb dX1_measure_115 (by decide) ?_
    exact join_119 1 (by exact bkFlat_1 c_100) (by decide) _ _ _ hw (lv_sub hl [0, 1, 2, 3] rfl)
  · refine lv_aload_n hx hb dX1_measure_103 rfl (lv_at hl 0 rfl) ?_
    refine r_get (ci := 1) (v := .int (iMin (axPl y ((b.2.2.2.2 i).1)) (axPl y ((b.2.2.2.2 i).2.1)))) (C := RX1) (T := TX1) (N := 10) hx hb hts wiX1_measure_meas1_X1 hown hK hw (12 + i) ((at_skip (n := 4) (j := 8 + i) rfl (by omega)).trans ((at_skip (n := 4) (j := 4 + i) rfl (by omega)).trans (bd_atu (by omega)))) rfl 6 (by decide) wmX1_measure_meas1_11 (fun _ h9 => h9) rfl dX1_measure_104 ?_
    refine lv_aload_n hx hb dX1_measure_107 rfl (lv_at hl 0 rfl) ?_
    refine r_get (ci := 1) (v := .int (iMax (axPl y ((b.2.2.2.2 i).1)) (axPl y ((b.2.2.2.2 i).2.1)))) (C := RX1) (T := TX1) (N := 10) hx hb hts wiX1_measure_meas1_X1 hown hK hw (12 + i) ((at_skip (n := 4) (j := 8 + i) rfl (by omega)).trans ((at_skip (n := 4) (j := 4 + i) rfl (by omega)).trans (bd_atu (by omega)))) rfl 7 (by decide) wmX1_measure_meas1_12 (fun _ h9 => h9) rfl dX1_measure_108 ?_
    refine lv_icmp_ne (tgt := 118) hx hb dX1_measure_111 (by decide) (fun c_111 => ?_) (fun c_111 => ?_)
    · refine lv_iconst (v := 0) hx hb dX1_measure_118 (by decide) ?_
      exact join_119 0 (by exact bkFlat_3 c_100 c_111) (by decide) _ _ _ hw (lv_sub hl [0, 1, 2, 3] rfl)
    · refine lv_iconst (v := 1) hx hb dX1_measure_114 (by decide) ?_
      refine lv_goto (tgt := 119) hx hb dX1_measure_115 (by decide) ?_
      exact join_119 1 (by exact bkFlat_2 c_100 c_111) (by decide) _ _ _ hw (lv_sub hl [0, 1, 2, 3] rfl)

theorem c_meas (l : Launch) (G : gT) (ax : aAx) (x : tAx) (ay : aAx) (y : tAx) (a : aBd) (b : tBd) (i : Nat) (h : Int32) (hi : i < 9) (h1 : (b.2.2.2.2 i).1 ≤ 15) (h2 : (b.2.2.2.2 i).2.1 ≤ 15) (hj : ∀ j, (b.2.2.2.2 i).2.2.2.1 = some j → j < i) (sz : Nat) : MV l yX1_measure wsX1_measure ({ frames := 1, cells := 0, slots := 0, locals := 24 }) G [.ref (a.2.2.2.2 i), .ref ax.1, .ref ay.1, .int h] (wAx G ax x ++ (wAx G ay y ++ (wBd G a b))) (wAx G ax x ++ (wAx G ay y ++ (wBd G a (b.1, b.2.1, b.2.2.1, b.2.2.2.1, (updB b.2.2.2.2 i (bkMeas x y h b.2.2.2.2 i)))))) sz 0 0 := by
  cases ho : (b.2.2.2.2 i).2.2.2.1 with
  | none =>
    simp only [bkMeas, ho]
    exact c_meas0 l G ax x ay y a b i h hi h1 h2 ho sz
  | some j =>
    simp only [bkMeas, ho]
    have q := hj j ho
    exact c_meas1 l G ax x ay y a b i h j hi h1 h2 ho (by omega) (by omega) sz
end
section
/-! PartSketch$Body: what its methods compute, written as they do it -/
def bc1 (z : Int64) : Int64 := z - (((z).toUInt64 >>> ((1 : Int32).toInt64.toUInt64 &&& Int64.toUInt64 63)).toInt64 &&& 6148914691236517205)
def bc2 (z : Int64) : Int64 := (bc1 z &&& 3689348814741910323) + (((bc1 z).toUInt64 >>> ((2 : Int32).toInt64.toUInt64 &&& Int64.toUInt64 63)).toInt64 &&& 3689348814741910323)
def bc3 (z : Int64) : Int64 := (bc2 z + ((bc2 z).toUInt64 >>> ((4 : Int32).toInt64.toUInt64 &&& Int64.toUInt64 63)).toInt64) &&& 1085102592571150095
def bc4 (z : Int64) : Int64 := bc3 z + ((bc3 z).toUInt64 >>> ((8 : Int32).toInt64.toUInt64 &&& Int64.toUInt64 63)).toInt64
def bc5 (z : Int64) : Int64 := bc4 z + ((bc4 z).toUInt64 >>> ((16 : Int32).toInt64.toUInt64 &&& Int64.toUInt64 63)).toInt64
def bc6 (z : Int64) : Int64 := bc5 z + ((bc5 z).toUInt64 >>> ((32 : Int32).toInt64.toUInt64 &&& Int64.toUInt64 63)).toInt64
def bitc (z : Int64) : Int32 := (bc6 z).toInt32 &&& 127
def bdMeasK (x y : tAx) (T : Nat → tBk) : Nat → (Nat → tBk)
  | 0 => T
  | k + 1 => updB (bdMeasK x y T k) k (bkMeas x y (bdMeasK x y T k 0).2.2.1 (bdMeasK x y T k) k)
def bdMeas (x y : tAx) (b : tBd) : tBd := if b.1 = 0 then b else (b.1, b.2.1, b.2.2.1, b.2.2.2.1, bdMeasK x y b.2.2.2.2 (b.2.1 + 1))
/-- what stays of a block that is measured -/
def bkKeep (b c : tBk) : Prop := c.1 = b.1 ∧ c.2.1 = b.2.1 ∧ c.2.2.1 = b.2.2.1 ∧ c.2.2.2.1 = b.2.2.2.1
theorem bkMeas_keep (x y : tAx) (h : Int32) (T : Nat → tBk) (i : Nat) : bkKeep (T i) (bkMeas x y h T i) := by
  unfold bkMeas
  split
  · exact ⟨rfl, rfl, rfl, rfl⟩
  · exact ⟨rfl, rfl, rfl, rfl⟩
theorem bdMeasK_keep (x y : tAx) (T : Nat → tBk) (i : Nat) : ∀ k, bkKeep (T i) (bdMeasK x y T k i)
  | 0 => ⟨rfl, rfl, rfl, rfl⟩
  | k + 1 => by
    have h := bdMeasK_keep x y T i k
    by_cases e : i = k
    · subst e
      have h2 := bkMeas_keep x y (bdMeasK x y T i 0).2.2.1 (bdMeasK x y T i) i
      rw [show bdMeasK x y T (i + 1) i = bkMeas x y (bdMeasK x y T i 0).2.2.1 (bdMeasK x y T i) i from updB_s _ _ _]
      exact ⟨h2.1.trans h.1, h2.2.1.trans h.2.1, h2.2.2.1.trans h.2.2.1, h2.2.2.2.trans h.2.2.2⟩
    · rw [show bdMeasK x y T (k + 1) i = bdMeasK x y T k i from updB_n e]
      exact h
def bdOk (T : Nat → tBk) : Prop := ∀ i, i < 9 → (T i).1 ≤ 15 ∧ (T i).2.1 ≤ 15 ∧ ∀ j, (T i).2.2.2.1 = some j → j < i
theorem bdOk_measK {x y : tAx} {T : Nat → tBk} (h : bdOk T) (k : Nat) : bdOk (bdMeasK x y T k) := fun i hi => by
  obtain ⟨e1, e2, -, e4⟩ := bdMeasK_keep x y T i k
  obtain ⟨h1, h2, h3⟩ := h i hi
  exact ⟨by rw [e1]; exact h1, by rw [e2]; exact h2, fun j hj => h3 j (by rw [← e4]; exact hj)⟩
def bdWhole (b : tBd) : Int32 := if b.1 = 0 then 0 else if (b.2.2.2.2 0).2.2.2.2.2.2.2.2.2 = 0 then bkCells (b.2.2.2.2 0) else 0
/-- a value put in its order among the first places of a row -/
def insA (v : Int32) : Nat → (Nat → Int32) → Nat → Int32
  | 0, f => upd f 0 v
  | k + 1, f => if f k ≤ v then upd f (k + 1) v else insA v k (upd f (k + 1) (f k))
def gsK (T : Nat → tBk) (xs ys : Nat → Int32) : Nat → Nat × (Nat → Int32) × (Nat → Int32)
  | 0 => (0, xs, ys)
  | k + 1 => if (T (1 + k)).2.2.2.2.2.2.2.2.2 = 0 then ((gsK T xs ys k).1 + 2, insA (T (1 + k)).2.2.2.2.2.1 ((gsK T xs ys k).1 + 1) (insA (T (1 + k)).2.2.2.2.1 (gsK T xs ys k).1 (gsK T xs ys k).2.1), insA (T (1 + k)).2.2.2.2.2.2.2.1 ((gsK T xs ys k).1 + 1) (insA (T (1 + k)).2.2.2.2.2.2.1 (gsK T xs ys k).1 (gsK T xs ys k).2.2)) else gsK T xs ys k
theorem gsK_le (T : Nat → tBk) (xs ys : Nat → Int32) : ∀ k, (gsK T xs ys k).1 ≤ 2 * k
  | 0 => Nat.le_refl _
  | k + 1 => by
    have h := gsK_le T xs ys k
    rw [gsK]
    split
    · show (gsK T xs ys k).1 + 2 ≤ _
      omega
    · omega
def ltK (T : Nat → tBk) (u v : Int32) : Nat → Int64
  | 0 => 0
  | k + 1 => if (T (1 + k)).2.2.2.2.2.2.2.2.2 = 0 then (if bkCovers (T (1 + k)) u v = 0 then ltK T u v k else ltK T u v k ||| bkLayers (T (1 + k))) else ltK T u v k
def ddK (T : Nat → tBk) : Nat → Int64
  | 0 => 0
  | k + 1 => if (T (1 + k)).2.2.2.2.2.2.2.2.2 = 0 then ddK T k ||| ((1 : Int64) <<< (((T (1 + k)).2.2.1).toInt64 &&& 63)) else ddK T k
def bdCol (xs ys : Nat → Int32) (i j : Nat) : Int32 := (xs (i + 1) - xs i) * (ys (j + 1) - ys j)
def tkRow (T : Nat → tBk) (np : Nat) (xs ys : Nat → Int32) (i : Nat) (t : Int32) : Nat → Int32
  | 0 => t
  | j + 1 => if bdCol xs ys i j ≤ 0 then tkRow T np xs ys i t j else tkRow T np xs ys i t j + bdCol xs ys i j * bitc (ltK T (xs i) (ys j) np)
def tkAll (T : Nat → tBk) (np : Nat) (xs ys : Nat → Int32) (n : Nat) : Nat → Int32
  | 0 => 0
  | i + 1 => tkRow T np xs ys i (tkAll T np xs ys n i) (n - 1)
def bdGs (b : tBd) : Nat × (Nat → Int32) × (Nat → Int32) := gsK b.2.2.2.2 b.2.2.1 b.2.2.2.1 b.2.1
def bdTaken (b : tBd) : Int32 := tkAll b.2.2.2.2 b.2.1 (bdGs b).2.1 (bdGs b).2.2 (bdGs b).1 ((bdGs b).1 - 1)

theorem wmJ13_bitCount_95d88_bitCount_0 : Cond.constantLong RJ13 314 6148914691236517205 ∈ wsJ13_bitCount_95d88 := by decide +kernel
theorem wmJ13_bitCount_95d88_bitCount_1 : Cond.constantLong RJ13 316 3689348814741910323 ∈ wsJ13_bitCount_95d88 := by decide +kernel
theorem wmJ13_bitCount_95d88_bitCount_2 : Cond.constantLong RJ13 318 1085102592571150095 ∈ wsJ13_bitCount_95d88 := by decide +kernel
set_option maxHeartbeats 4000000 in
set_option maxRecDepth 100000 in
/-- Long.bitCount, as the JDK does it -/
theorem c_bitCount (l : Launch) (G : gT) (z : Int64) (sz : Nat) : MI l yJ13_bitCount_95d88 wsJ13_bitCount_95d88 ({ frames := 0, cells := 0, slots := 0, locals := 0 }) G [.long z] ([] : va_W) ([] : va_W) sz (bitc z) 0 0 := by
  refine m_of (Qc := fun A => (va_Qi (fun (r9 : Int32) (_ : Unit) => r9 = (bitc z)) (fun _ t9 => wPost G A ([] : va_W) t9) A)) (cc := cJ13_bitCount_95d88) (maxL := 2) (ret := (some .int)) (by decide) rfl (Nat.le_of_ble_eq_true rfl) ?_
  intro p e s m A below meth c H locs ls hx hb hr hts hown hlocks hin hml hK hA hw hl
  have hl : lv_has ls 2 [(0, .long z)] := hl
  refine lv_lload_n hx hb dJ13_bitCount_95d88_0 rfl (lv_at hl 0 rfl) ?_
  refine lv_lload_n hx hb dJ13_bitCount_95d88_1 rfl (lv_at hl 0 rfl) ?_
  refine lv_iconst (v := 1) hx hb dJ13_bitCount_95d88_2 (by decide) ?_
  refine lv_lushr (v := ((z).toUInt64 >>> ((1 : Int32).toInt64.toUInt64 &&& Int64.toUInt64 63)).toInt64) hx hb dJ13_bitCount_95d88_3 rfl ?_
  refine lv_ldc2 (v := 6148914691236517205) hx hb hown (hts _ wmJ13_bitCount_95d88_bitCount_0) dJ13_bitCount_95d88_4 ?_
  refine lv_land hx hb dJ13_bitCount_95d88_7 ?_
  refine lv_lsub hx hb dJ13_bitCount_95d88_8 ?_
  refine r_topL (y := bc1 z) rfl ?_
  refine lv_lstore_n (lv' := [(0, .long (bc1 z))]) hx hb dJ13_bitCount_95d88_9 rfl hl (by decide) rfl (fun ls hl => ?_)
  refine lv_lload_n hx hb dJ13_bitCount_95d88_10 rfl (lv_at hl 0 rfl) ?_
  refine lv_ldc2 (v := 3689348814741910323) hx hb hown (hts _ wmJ13_bitCount_95d88_bitCount_1) dJ13_bitCount_95d88_11 ?_
  refine lv_land hx hb dJ13_bitCount_95d88_14 ?_
  refine lv_lload_n hx hb dJ13_bitCount_95d88_15 rfl (lv_at hl 0 rfl) ?_
  refine lv_iconst (v := 2) hx hb dJ13_bitCount_95d88_16 (by decide) ?_
  refine lv_lushr (v := ((bc1 z).toUInt64 >>> ((2 : Int32).toInt64.toUInt64 &&& Int64.toUInt64 63)).toInt64) hx hb dJ13_bitCount_95d88_17 rfl ?_
  refine lv_ldc2 (v := 3689348814741910323) hx hb hown (hts _ wmJ13_bitCount_95d88_bitCount_1) dJ13_bitCount_95d88_18 ?_
  refine lv_land hx hb dJ13_bitCount_95d88_21 ?_
  refine lv_ladd hx hb dJ13_bitCount_95d88_22 ?_
  refine r_topL (y := bc2 z) rfl ?_
  refine lv_lstore_n (lv' := [(0, .long (bc2 z))]) hx hb dJ13_bitCount_95d88_23 rfl hl (by decide) rfl (fun ls hl => ?_)
  refine lv_lload_n hx hb dJ13_bitCount_95d88_24 rfl (lv_at hl 0 rfl) ?_
  refine lv_lload_n hx hb dJ13_bitCount_95d88_25 rfl (lv_at hl 0 rfl) ?_
  refine lv_iconst (v := 4) hx hb dJ13_bitCount_95d88_26 (by decide) ?_
  refine lv_lushr (v := ((bc2 z).toUInt64 >>> ((4 : Int32).toInt64.toUInt64 &&& Int64.toUInt64 63)).toInt64) hx hb dJ13_bitCount_95d88_27 rfl ?_
  refine lv_ladd hx hb dJ13_bitCount_95d88_28 ?_
  refine lv_ldc2 (v := 1085102592571150095) hx hb hown (hts _ wmJ13_bitCount_95d88_bitCount_2) dJ13_bitCount_95d88_29 ?_
  refine lv_land hx hb dJ13_bitCount_95d88_32 ?_
  refine r_topL (y := bc3 z) rfl ?_
  refine lv_lstore_n (lv' := [(0, .long (bc3 z))]) hx hb dJ13_bitCount_95d88_33 rfl hl (by decide) rfl (fun ls hl => ?_)
  refine lv_lload_n hx hb dJ13_bitCount_95d88_34 rfl (lv_at hl 0 rfl) ?_
  refine lv_lload_n hx hb dJ13_bitCount_95d88_35 rfl (lv_at hl 0 rfl) ?_
  refine lv_bipush (v := 8) hx hb dJ13_bitCount_95d88_36 (by decide) ?_
  refine lv_lushr (v := ((bc3 z).toUInt64 >>> ((8 : Int32).toInt64.toUInt64 &&& Int64.toUInt64 63)).toInt64) hx hb dJ13_bitCount_95d88_38 rfl ?_
  refine lv_ladd hx hb dJ13_bitCount_95d88_39 ?_
  refine r_topL (y := bc4 z) rfl ?_
  refine lv_lstore_n (lv' := [(0, .long (bc4 z))]) hx hb dJ13_bitCount_95d88_40 rfl hl (by decide) rfl (fun ls hl => ?_)
  refine lv_lload_n hx hb dJ13_bitCount_95d88_41 rfl (lv_at hl 0 rfl) ?_
  refine lv_lload_n hx hb dJ13_bitCount_95d88_42 rfl (lv_at hl 0 rfl) ?_
  refine lv_bipush (v := 16) hx hb dJ13_bitCount_95d88_43 (by decide) ?_
  refine lv_lushr (v := ((bc4 z).toUInt64 >>> ((16 : Int32).toInt64.toUInt64 &&& Int64.toUInt64 63)).toInt64) hx hb dJ13_bitCount_95d88_45 rfl ?_
  refine lv_ladd hx hb dJ13_bitCount_95d88_46 ?_
  refine r_topL (y := bc5 z) rfl ?_
  refine lv_lstore_n (lv' := [(0, .long (bc5 z))]) hx hb dJ13_bitCount_95d88_47 rfl hl (by decide) rfl (fun ls hl => ?_)
  refine lv_lload_n hx hb dJ13_bitCount_95d88_48 rfl (lv_at hl 0 rfl) ?_
  refine lv_lload_n hx hb dJ13_bitCount_95d88_49 rfl (lv_at hl 0 rfl) ?_
  refine lv_bipush (v := 32) hx hb dJ13_bitCount_95d88_50 (by decide) ?_
  refine lv_lushr (v := ((bc5 z).toUInt64 >>> ((32 : Int32).toInt64.toUInt64 &&& Int64.toUInt64 63)).toInt64) hx hb dJ13_bitCount_95d88_52 rfl ?_
  refine lv_ladd hx hb dJ13_bitCount_95d88_53 ?_
  refine r_topL (y := bc6 z) rfl ?_
  refine lv_lstore_n (lv' := [(0, .long (bc6 z))]) hx hb dJ13_bitCount_95d88_54 rfl hl (by decide) rfl (fun ls hl => ?_)
  refine lv_lload_n hx hb dJ13_bitCount_95d88_55 rfl (lv_at hl 0 rfl) ?_
  refine lv_l2i (v := (bc6 z).toInt32) hx hb dJ13_bitCount_95d88_56 rfl ?_
  refine lv_bipush (v := 127) hx hb dJ13_bitCount_95d88_57 (by decide) ?_
  refine lv_iand hx hb dJ13_bitCount_95d88_59 ?_
  exact m_iret hx hb hr hlocks hK hw (Nat.le_of_ble_eq_true rfl) (Nat.le_of_ble_eq_true rfl) dJ13_bitCount_95d88_60 (show (((bc6 z).toInt32) &&& 127 : Int32) = bitc z by first | rfl | (simp only []; first | done | rfl)) rfl

theorem wiX2_base_base_X2 : ∀ w ∈ wsX20, w ∈ wsX2_base := by decide +kernel
theorem wmX2_base_base_0 : Cond.fieldLink RX2 11 "PartSketch$Body" "blocks" "[LPartSketch$Block;" ∈ wsX2_base := by decide +kernel
set_option maxHeartbeats 4000000 in
set_option maxRecDepth 100000 in
/-- Body.base -/
theorem c_base (l : Launch) (G : gT) (a : aBd) (b : tBd) (sz : Nat) : MR l yX2_base wsX2_base ({ frames := 0, cells := 0, slots := 0, locals := 0 }) G [.ref a.1] (wBd G a b) (wBd G a b) sz (a.2.2.2.2 0) 0 0 := by
  refine m_of (Qc := fun A => (va_Qr (fun (_ : Unit) => True) (fun _ a9 t9 => a9 = (a.2.2.2.2 0) ∧ wPost G A (wBd G a b) t9) A)) (cc := cX2_base) (maxL := 1) (ret := (some (.object "PartSketch$Block"))) (by decide) rfl (Nat.le_of_ble_eq_true rfl) ?_
  intro p e s m A below meth c H locs ls hx hb hr hts hown hlocks hin hml hK hA hw hl
  have hl : lv_has ls 1 [(0, .ref a.1)] := hl
  refine lv_aload_n hx hb dX2_base_0 rfl (lv_at hl 0 rfl) ?_
  refine r_get (ci := 2) (v := .ref a.2.1) (C := RX2) (T := TX2) (N := 5) hx hb hts wiX2_base_base_X2 hown hK hw 0 rfl rfl 2 (by decide) wmX2_base_base_0 (fun _ h9 => h9) rfl dX2_base_1 ?_
  refine lv_iconst (v := 0) hx hb dX2_base_4 (by decide) ?_
  refine r_aldB (v := a.2.2.2.2 0) hx hb hK hw 1 rfl 0 rfl (by omega) (by decide) rfl dX2_base_5 ?_
  exact m_rret hx hb hr (Or.inl ⟨_, rfl⟩) hlocks hK hw (Nat.le_of_ble_eq_true rfl) (Nat.le_of_ble_eq_true rfl) dX2_base_6 rfl rfl

theorem wiX2_pocketAt_pocketAt_X2 : ∀ w ∈ wsX20, w ∈ wsX2_pocketAt := by decide +kernel
theorem wmX2_pocketAt_pocketAt_0 : Cond.fieldLink RX2 11 "PartSketch$Body" "blocks" "[LPartSketch$Block;" ∈ wsX2_pocketAt := by decide +kernel
set_option maxHeartbeats 4000000 in
set_option maxRecDepth 100000 in
/-- Body.pocketAt -/
theorem c_pocketAt (l : Launch) (G : gT) (a : aBd) (b : tBd) (n : Int32) (k : Nat) (hk : 1 + n = nI k) (hk9 : k < 9) (sz : Nat) : MR l yX2_pocketAt wsX2_pocketAt ({ frames := 0, cells := 0, slots := 0, locals := 0 }) G [.ref a.1, .int n] (wBd G a b) (wBd G a b) sz (a.2.2.2.2 k) 0 0 := by
  refine m_of (Qc := fun A => (va_Qr (fun (_ : Unit) => True) (fun _ a9 t9 => a9 = (a.2.2.2.2 k) ∧ wPost G A (wBd G a b) t9) A)) (cc := cX2_pocketAt) (maxL := 2) (ret := (some (.object "PartSketch$Block"))) (by decide) rfl (Nat.le_of_ble_eq_true rfl) ?_
  intro p e s m A below meth c H locs ls hx hb hr hts hown hlocks hin hml hK hA hw hl
  have hl : lv_has ls 2 [(0, .ref a.1), (1, .int n)] := hl
  refine lv_aload_n hx hb dX2_pocketAt_0 rfl (lv_at hl 0 rfl) ?_
  refine r_get (ci := 2) (v := .ref a.2.1) (C := RX2) (T := TX2) (N := 5) hx hb hts wiX2_pocketAt_pocketAt_X2 hown hK hw 0 rfl rfl 2 (by decide) wmX2_pocketAt_pocketAt_0 (fun _ h9 => h9) rfl dX2_pocketAt_1 ?_
  refine lv_iconst (v := 1) hx hb dX2_pocketAt_4 (by decide) ?_
  refine lv_iload_n hx hb dX2_pocketAt_5 rfl (lv_at hl 1 rfl) ?_
  refine lv_iadd hx hb dX2_pocketAt_6 ?_
  refine r_aldB (v := a.2.2.2.2 k) hx hb hK hw 1 rfl k hk (by omega) (by decide) rfl dX2_pocketAt_7 ?_
  exact m_rret hx hb hr (Or.inl ⟨_, rfl⟩) hlocks hK hw (Nat.le_of_ble_eq_true rfl) (Nat.le_of_ble_eq_true rfl) dX2_pocketAt_8 rfl rfl

theorem wiX2_layBase_layBase_X2 : ∀ w ∈ wsX20, w ∈ wsX2_layBase := by decide +kernel
theorem wmX2_layBase_layBase_0 : Cond.fieldLink RX2 33 "PartSketch$Body" "hasBase" "Z" ∈ wsX2_layBase := by decide +kernel
set_option maxHeartbeats 4000000 in
set_option maxRecDepth 100000 in
/-- Body.layBase -/
theorem c_layBase (l : Launch) (G : gT) (a : aBd) (b : tBd) (u : Nat) (v : Nat) (d : Int32) (sz : Nat) : MV l yX2_layBase wsX2_layBase ({ frames := 1, cells := 0, slots := 0, locals := 24 }) G [.ref a.1, .int (nI u), .int (nI v), .int d] (wBd G a b) (wBd G a (1, b.2.1, b.2.2.1, b.2.2.2.1, (updB b.2.2.2.2 0 (u, v, d, none, (b.2.2.2.2 0).2.2.2.2.1, (b.2.2.2.2 0).2.2.2.2.2.1, (b.2.2.2.2 0).2.2.2.2.2.2.1, (b.2.2.2.2 0).2.2.2.2.2.2.2.1, (b.2.2.2.2 0).2.2.2.2.2.2.2.2.1, (b.2.2.2.2 0).2.2.2.2.2.2.2.2.2)))) sz 0 0 := by
  refine m_of (Qc := fun A => (va_Qv (fun (_ : Unit) => True) (fun _ t9 => wPost G A (wBd G a (1, b.2.1, b.2.2.1, b.2.2.2.1, (updB b.2.2.2.2 0 (u, v, d, none, (b.2.2.2.2 0).2.2.2.2.1, (b.2.2.2.2 0).2.2.2.2.2.1, (b.2.2.2.2 0).2.2.2.2.2.2.1, (b.2.2.2.2 0).2.2.2.2.2.2.2.1, (b.2.2.2.2 0).2.2.2.2.2.2.2.2.1, (b.2.2.2.2 0).2.2.2.2.2.2.2.2.2)))) t9) A)) (cc := cX2_layBase) (maxL := 4) (ret := none) (by decide) rfl (Nat.le_of_ble_eq_true rfl) ?_
  intro p e s m A below meth c H locs ls hx hb hr hts hown hlocks hin hml hK hA hw hl
  have hl : lv_has ls 4 [(0, .ref a.1), (1, .int (nI u)), (2, .int (nI v)), (3, .int d)] := hl
  refine lv_aload_n hx hb dX2_layBase_0 rfl (lv_at hl 0 rfl) ?_
  have hwc : wW G A s.heap (([] : va_W) ++ ((wBd G a b) ++ ([] : va_W))) H locs := hw
  refine r_callr (res := (a.2.2.2.2 0)) (u := ([] : va_W)) (w := wBd G a b) (v := ([] : va_W)) (va_runV (As := []) (rest := []) ⟨hx, hb, hml, hown, hts⟩ (c_base l G a b H.size) (cwV 0 hts gX2_layBase_X2_base rfl rfl rfl (by decide +kernel) ⟨Nat.le_of_ble_eq_true rfl, Nat.le_of_ble_eq_true rfl⟩) (r_preV (ci := 2) (q0 := 0) hK hwc rfl rfl rfl) rfl rfl hl.1 rfl (lv_room (Nat.le_of_ble_eq_true rfl)) dX2_layBase_1 ⟨Nat.le_of_ble_eq_true rfl, Nat.le_of_ble_eq_true rfl⟩) hwc hA rfl rfl (fun H locs hw => ?_)
  have hw : wW G A s.heap (wBd G a b) H locs := hw
  refine lv_iload_n hx hb dX2_layBase_4 rfl (lv_at hl 1 rfl) ?_
  refine lv_iload_n hx hb dX2_layBase_5 rfl (lv_at hl 2 rfl) ?_
  refine lv_iload_n hx hb dX2_layBase_6 rfl (lv_at hl 3 rfl) ?_
  refine lv_null hx hb dX2_layBase_7 ?_
  have hwc : wW G A s.heap (([] : va_W) ++ ((wBd G a b) ++ ([] : va_W))) H locs := hw
  have hrv : (wBd G a b)[(4 + 0)]? = some (a.2.2.2.2 0, cBk a.2.2.2.2 (b.2.2.2.2 0)) := bd_at (by omega)
  refine r_callv (u := ([] : va_W)) (w := wBd G a b) (v := ([] : va_W)) (va_runV (As := [.int (nI u), .int (nI v), .int d, .null]) (rest := []) ⟨hx, hb, hml, hown, hts⟩ (c_put0 l G a b 0 u v d (by first | assumption | omega | decide) H.size) (cwV 4 hts gX2_layBase_X1_put rfl rfl rfl (by decide +kernel) ⟨Nat.le_of_ble_eq_true rfl, Nat.le_of_ble_eq_true rfl⟩) (r_preV (ci := 1) (q0 := (4 + 0)) hK hwc hrv rfl rfl) rfl rfl hl.1 rfl (lv_room (Nat.le_of_ble_eq_true rfl)) dX2_layBase_8 ⟨Nat.le_of_ble_eq_true rfl, Nat.le_of_ble_eq_true rfl⟩) hwc hA rfl rfl (fun H locs hw => ?_)
  have hw : wW G A s.heap (wBd G a (b.1, b.2.1, b.2.2.1, b.2.2.2.1, (updB b.2.2.2.2 0 (u, v, d, none, (b.2.2.2.2 0).2.2.2.2.1, (b.2.2.2.2 0).2.2.2.2.2.1, (b.2.2.2.2 0).2.2.2.2.2.2.1, (b.2.2.2.2 0).2.2.2.2.2.2.2.1, (b.2.2.2.2 0).2.2.2.2.2.2.2.2.1, (b.2.2.2.2 0).2.2.2.2.2.2.2.2.2)))) H locs := hw
  refine lv_aload_n hx hb dX2_layBase_11 rfl (lv_at hl 0 rfl) ?_
  refine lv_iconst (v := 1) hx hb dX2_layBase_12 (by decide) ?_
  refine r_put (ci := 2) (v := .int 1) (ty := .boolean) (C := RX2) (T := TX2) (N := 5) hx hb hts wiX2_layBase_layBase_X2 tyX2 tyX2_ok nmX2 hown hK hw 0 rfl rfl 0 (by decide) wmX2_layBase_layBase_0 (fun _ h9 => h9) rfl (by decide +kernel) (by rfl) (by rfl) (Nat.le_of_ble_eq_true rfl) dX2_layBase_13 (ws' := wBd G a (1, b.2.1, b.2.2.1, b.2.2.2.1, (updB b.2.2.2.2 0 (u, v, d, none, (b.2.2.2.2 0).2.2.2.2.1, (b.2.2.2.2 0).2.2.2.2.2.1, (b.2.2.2.2 0).2.2.2.2.2.2.1, (b.2.2.2.2 0).2.2.2.2.2.2.2.1, (b.2.2.2.2 0).2.2.2.2.2.2.2.2.1, (b.2.2.2.2 0).2.2.2.2.2.2.2.2.2)))) rfl (fun H locs hw => ?_)
  exact m_vret hx hb hr hlocks hK hw (Nat.le_of_ble_eq_true rfl) (Nat.le_of_ble_eq_true rfl) dX2_layBase_16 rfl

theorem wiX2_addPocket_addPocket_X2 : ∀ w ∈ wsX20, w ∈ wsX2_addPocket := by decide +kernel
theorem wmX2_addPocket_addPocket_0 : Cond.fieldLink RX2 37 "PartSketch$Body" "pockets" "I" ∈ wsX2_addPocket := by decide +kernel
set_option maxHeartbeats 4000000 in
set_option maxRecDepth 100000 in
/-- Body.addPocket -/
theorem c_addPocket (l : Launch) (G : gT) (a : aBd) (b : tBd) (u : Nat) (v : Nat) (d : Int32) (inn : Int32) (q : Nat) (hn : b.2.1 < 8) (hq : 1 + inn = nI q) (hq9 : q < 9) (sz : Nat) : MI l yX2_addPocket wsX2_addPocket ({ frames := 1, cells := 0, slots := 0, locals := 24 }) G [.ref a.1, .int (nI u), .int (nI v), .int d, .int inn] (wBd G a b) (wBd G a (b.1, b.2.1 + 1, b.2.2.1, b.2.2.2.1, (updB b.2.2.2.2 (1 + b.2.1) (u, v, d, some q, (b.2.2.2.2 (1 + b.2.1)).2.2.2.2.1, (b.2.2.2.2 (1 + b.2.1)).2.2.2.2.2.1, (b.2.2.2.2 (1 + b.2.1)).2.2.2.2.2.2.1, (b.2.2.2.2 (1 + b.2.1)).2.2.2.2.2.2.2.1, (b.2.2.2.2 (1 + b.2.1)).2.2.2.2.2.2.2.2.1, (b.2.2.2.2 (1 + b.2.1)).2.2.2.2.2.2.2.2.2)))) sz (nI b.2.1) 0 0 := by
  refine m_of (Qc := fun A => (va_Qi (fun (r9 : Int32) (_ : Unit) => r9 = (nI b.2.1)) (fun _ t9 => wPost G A (wBd G a (b.1, b.2.1 + 1, b.2.2.1, b.2.2.2.1, (updB b.2.2.2.2 (1 + b.2.1) (u, v, d, some q, (b.2.2.2.2 (1 + b.2.1)).2.2.2.2.1, (b.2.2.2.2 (1 + b.2.1)).2.2.2.2.2.1, (b.2.2.2.2 (1 + b.2.1)).2.2.2.2.2.2.1, (b.2.2.2.2 (1 + b.2.1)).2.2.2.2.2.2.2.1, (b.2.2.2.2 (1 + b.2.1)).2.2.2.2.2.2.2.2.1, (b.2.2.2.2 (1 + b.2.1)).2.2.2.2.2.2.2.2.2)))) t9) A)) (cc := cX2_addPocket) (maxL := 6) (ret := (some .int)) (by decide) rfl (Nat.le_of_ble_eq_true rfl) ?_
  intro p e s m A below meth c H locs ls hx hb hr hts hown hlocks hin hml hK hA hw hl
  have hl : lv_has ls 6 [(0, .ref a.1), (1, .int (nI u)), (2, .int (nI v)), (3, .int d), (4, .int inn)] := hl
  refine lv_aload_n hx hb dX2_addPocket_0 rfl (lv_at hl 0 rfl) ?_
  refine r_get (ci := 2) (v := .int (nI b.2.1)) (C := RX2) (T := TX2) (N := 5) hx hb hts wiX2_addPocket_addPocket_X2 hown hK hw 0 rfl rfl 1 (by decide) wmX2_addPocket_addPocket_0 (fun _ h9 => h9) rfl dX2_addPocket_1 ?_
  refine lv_istore (lv' := [(5, .int (nI b.2.1)), (0, .ref a.1), (1, .int (nI u)), (2, .int (nI v)), (3, .int d), (4, .int inn)]) hx hb dX2_addPocket_4 hl (by decide) rfl (fun ls hl => ?_)
  refine lv_aload_n hx hb dX2_addPocket_6 rfl (lv_at hl 1 rfl) ?_
  refine lv_iload hx hb dX2_addPocket_7 (lv_at hl 0 rfl) ?_
  have hwc : wW G A s.heap (([] : va_W) ++ ((wBd G a b) ++ ([] : va_W))) H locs := hw
  refine r_callr (res := (a.2.2.2.2 (1 + b.2.1))) (u := ([] : va_W)) (w := wBd G a b) (v := ([] : va_W)) (va_runV (As := [.int (nI b.2.1)]) (rest := []) ⟨hx, hb, hml, hown, hts⟩ (c_pocketAt l G a b (nI b.2.1) (1 + b.2.1) (nI_add 1 b.2.1) (by first | assumption | omega | decide) H.size) (cwV 1 hts gX2_addPocket_X2_pocketAt rfl rfl rfl (by decide +kernel) ⟨Nat.le_of_ble_eq_true rfl, Nat.le_of_ble_eq_true rfl⟩) (r_preV (ci := 2) (q0 := 0) hK hwc rfl rfl rfl) rfl rfl hl.1 rfl (lv_room (Nat.le_of_ble_eq_true rfl)) dX2_addPocket_9 ⟨Nat.le_of_ble_eq_true rfl, Nat.le_of_ble_eq_true rfl⟩) hwc hA rfl rfl (fun H locs hw => ?_)
  have hw : wW G A s.heap (wBd G a b) H locs := hw
  refine lv_iload_n hx hb dX2_addPocket_12 rfl (lv_at hl 2 rfl) ?_
  refine lv_iload_n hx hb dX2_addPocket_13 rfl (lv_at hl 3 rfl) ?_
  refine lv_iload_n hx hb dX2_addPocket_14 rfl (lv_at hl 4 rfl) ?_
  refine lv_aload_n hx hb dX2_addPocket_15 rfl (lv_at hl 1 rfl) ?_
  refine lv_iload hx hb dX2_addPocket_16 (lv_at hl 5 rfl) ?_
  have hwc : wW G A s.heap (([] : va_W) ++ ((wBd G a b) ++ ([] : va_W))) H locs := hw
  refine r_callr (res := (a.2.2.2.2 q)) (u := ([] : va_W)) (w := wBd G a b) (v := ([] : va_W)) (va_runV (As := [.int inn]) (rest := [.int d, .int (nI v), .int (nI u), .ref (a.2.2.2.2 (1 + b.2.1))]) ⟨hx, hb, hml, hown, hts⟩ (c_pocketAt l G a b inn q hq (by first | assumption | omega | decide) H.size) (cwV 1 hts gX2_addPocket_X2_pocketAt rfl rfl rfl (by decide +kernel) ⟨Nat.le_of_ble_eq_true rfl, Nat.le_of_ble_eq_true rfl⟩) (r_preV (ci := 2) (q0 := 0) hK hwc rfl rfl rfl) rfl rfl hl.1 rfl (lv_room (Nat.le_of_ble_eq_true rfl)) dX2_addPocket_18 ⟨Nat.le_of_ble_eq_true rfl, Nat.le_of_ble_eq_true rfl⟩) hwc hA rfl rfl (fun H locs hw => ?_)
  have hw : wW G A s.heap (wBd G a b) H locs := hw
  have hwc : wW G A s.heap (([] : va_W) ++ ((wBd G a b) ++ ([] : va_W))) H locs := hw
  have hrv : (wBd G a b)[(4 + (1 + b.2.1))]? = some (a.2.2.2.2 (1 + b.2.1), cBk a.2.2.2.2 (b.2.2.2.2 (1 + b.2.1))) := bd_at (by omega)
  refine r_callv (u := ([] : va_W)) (w := wBd G a b) (v := ([] : va_W)) (va_runV (As := [.int (nI u), .int (nI v), .int d, .ref (a.2.2.2.2 q)]) (rest := []) ⟨hx, hb, hml, hown, hts⟩ (c_putq l G a b (1 + b.2.1) u v d q (by first | assumption | omega | decide) H.size) (cwV 4 hts gX2_addPocket_X1_put rfl rfl rfl (by decide +kernel) ⟨Nat.le_of_ble_eq_true rfl, Nat.le_of_ble_eq_true rfl⟩) (r_preV (ci := 1) (q0 := (4 + (1 + b.2.1))) hK hwc hrv rfl rfl) rfl rfl hl.1 rfl (lv_room (Nat.le_of_ble_eq_true rfl)) dX2_addPocket_21 ⟨Nat.le_of_ble_eq_true rfl, Nat.le_of_ble_eq_true rfl⟩) hwc hA rfl rfl (fun H locs hw => ?_)
  have hw : wW G A s.heap (wBd G a (b.1, b.2.1, b.2.2.1, b.2.2.2.1, (updB b.2.2.2.2 (1 + b.2.1) (u, v, d, some q, (b.2.2.2.2 (1 + b.2.1)).2.2.2.2.1, (b.2.2.2.2 (1 + b.2.1)).2.2.2.2.2.1, (b.2.2.2.2 (1 + b.2.1)).2.2.2.2.2.2.1, (b.2.2.2.2 (1 + b.2.1)).2.2.2.2.2.2.2.1, (b.2.2.2.2 (1 + b.2.1)).2.2.2.2.2.2.2.2.1, (b.2.2.2.2 (1 + b.2.1)).2.2.2.2.2.2.2.2.2)))) H locs := hw
  refine lv_aload_n hx hb dX2_addPocket_24 rfl (lv_at hl 1 rfl) ?_
  refine lv_dup hx hb dX2_addPocket_25 rfl ?_
  refine r_get (ci := 2) (v := .int (nI b.2.1)) (C := RX2) (T := TX2) (N := 5) hx hb hts wiX2_addPocket_addPocket_X2 hown hK hw 0 rfl rfl 1 (by decide) wmX2_addPocket_addPocket_0 (fun _ h9 => h9) rfl dX2_addPocket_26 ?_
  refine lv_iconst (v := 1) hx hb dX2_addPocket_29 (by decide) ?_
  refine lv_iadd hx hb dX2_addPocket_30 ?_
  refine r_top (y := nI (b.2.1 + 1)) (nI_add b.2.1 1) ?_
  refine r_put (ci := 2) (v := .int (nI (b.2.1 + 1))) (ty := .int) (C := RX2) (T := TX2) (N := 5) hx hb hts wiX2_addPocket_addPocket_X2 tyX2 tyX2_ok nmX2 hown hK hw 0 rfl rfl 1 (by decide) wmX2_addPocket_addPocket_0 (fun _ h9 => h9) rfl (by decide +kernel) rfl rfl (Nat.le_of_ble_eq_true rfl) dX2_addPocket_31 (ws' := wBd G a (b.1, b.2.1 + 1, b.2.2.1, b.2.2.2.1, (updB b.2.2.2.2 (1 + b.2.1) (u, v, d, some q, (b.2.2.2.2 (1 + b.2.1)).2.2.2.2.1, (b.2.2.2.2 (1 + b.2.1)).2.2.2.2.2.1, (b.2.2.2.2 (1 + b.2.1)).2.2.2.2.2.2.1, (b.2.2.2.2 (1 + b.2.1)).2.2.2.2.2.2.2.1, (b.2.2.2.2 (1 + b.2.1)).2.2.2.2.2.2.2.2.1, (b.2.2.2.2 (1 + b.2.1)).2.2.2.2.2.2.2.2.2)))) rfl (fun H locs hw => ?_)
  refine lv_iload hx hb dX2_addPocket_34 (lv_at hl 0 rfl) ?_
  exact m_iret hx hb hr hlocks hK hw (Nat.le_of_ble_eq_true rfl) (Nat.le_of_ble_eq_true rfl) dX2_addPocket_36 (show (nI b.2.1 : Int32) = nI b.2.1 by rfl) rfl

theorem wiX2_measure_bdmeas_X1 : ∀ w ∈ wsX10, w ∈ wsX2_measure := by decide +kernel
theorem wiX2_measure_bdmeas_X2 : ∀ w ∈ wsX20, w ∈ wsX2_measure := by decide +kernel
theorem wmX2_measure_bdmeas_0 : Cond.fieldLink RX2 33 "PartSketch$Body" "hasBase" "Z" ∈ wsX2_measure := by decide +kernel
theorem wmX2_measure_bdmeas_1 : Cond.fieldLink RX2 37 "PartSketch$Body" "pockets" "I" ∈ wsX2_measure := by decide +kernel
theorem wmX2_measure_bdmeas_2 : Cond.fieldLink RX2 45 "PartSketch$Block" "depth" "I" ∈ wsX2_measure := by decide +kernel
set_option maxHeartbeats 4000000 in
set_option maxRecDepth 100000 in
/-- Body.measure -/
theorem c_bdmeas (l : Launch) (G : gT) (ax : aAx) (x : tAx) (ay : aAx) (y : tAx) (a : aBd) (b : tBd) (hn : b.2.1 ≤ 8) (hok : bdOk b.2.2.2.2) (sz : Nat) : MV l yX2_measure wsX2_measure ({ frames := 2, cells := 0, slots := 0, locals := 48 }) G [.ref a.1, .ref ax.1, .ref ay.1] (wAx G ax x ++ (wAx G ay y ++ (wBd G a b))) (wAx G ax x ++ (wAx G ay y ++ (wBd G a (bdMeas x y b)))) sz 0 0 := by
  refine m_of (Qc := fun A => (va_Qv (fun (_ : Unit) => True) (fun _ t9 => wPost G A (wAx G ax x ++ (wAx G ay y ++ (wBd G a (bdMeas x y b)))) t9) A)) (cc := cX2_measure) (maxL := 4) (ret := none) (by decide) rfl (Nat.le_of_ble_eq_true rfl) ?_
  intro p e s m A below meth c H locs ls hx hb hr hts hown hlocks hin hml hK hA hw hl
  have hl : lv_has ls 4 [(0, .ref a.1), (1, .ref ax.1), (2, .ref ay.1)] := hl
  refine lv_aload_n hx hb dX2_measure_0 rfl (lv_at hl 0 rfl) ?_
  refine r_get (ci := 2) (v := .int b.1) (C := RX2) (T := TX2) (N := 5) hx hb hts wiX2_measure_bdmeas_X2 hown hK hw 8 rfl rfl 0 (by decide) wmX2_measure_bdmeas_0 (fun _ h9 => h9) rfl dX2_measure_1 ?_
  refine lv_if_ne (tgt := 8) hx hb dX2_measure_4 (by decide) (fun c_4 => ?_) (fun c_4 => ?_)
  · refine lv_iconst (v := (-1)) hx hb dX2_measure_8 (by decide) ?_
    refine lv_istore_n (lv' := [(3, .int (-1)), (0, .ref a.1), (1, .ref ax.1), (2, .ref ay.1)]) hx hb dX2_measure_9 rfl hl (by decide) rfl (fun ls hl => ?_)
    have loop_10 : ∀ (nf : Nat) (k : Nat) (hnf : (b.2.1 + 1 - k) < nf) (hk : k ≤ b.2.1 + 1), ∀ (H : Heap) (locs : List Loc) (ls : Array Slot), wW G A s.heap (wAx G ax x ++ (wAx G ay y ++ (wBd G a (b.1, b.2.1, b.2.2.1, b.2.2.2.1, (bdMeasK x y b.2.2.2.2 k))))) H locs → lv_has ls 4 [(0, .ref a.1), (1, .ref ax.1), (2, .ref ay.1), (3, .int (nI k - 1))] → W p l e ({ frames := 2, cells := 0, slots := 0, locals := 48 }) s m [.ref a.1, .ref ax.1, .ref ay.1].toArray below meth c H locs 0 0 (MQ below (va_Qv (fun (_ : Unit) => True) (fun _ t9 => wPost G A (wAx G ax x ++ (wAx G ay y ++ (wBd G a (bdMeas x y b)))) t9) A) [.ref a.1, .ref ax.1, .ref ay.1].toArray s 0 0 A) (F0 m 10 ls []) := by
      intro nf
      induction nf with
      | zero => intro k hnf hk; exact absurd hnf (Nat.not_lt_zero _)
      | succ nf ih_10 =>
        intro k hnf hk H locs ls hw hl
        refine lv_iload_n hx hb dX2_measure_10 rfl (lv_at hl 3 rfl) ?_
        refine lv_aload_n hx hb dX2_measure_11 rfl (lv_at hl 0 rfl) ?_
        refine r_get (ci := 2) (v := .int (nI b.2.1)) (C := RX2) (T := TX2) (N := 5) hx hb hts wiX2_measure_bdmeas_X2 hown hK hw 8 rfl rfl 1 (by decide) wmX2_measure_bdmeas_1 (fun _ h9 => h9) rfl dX2_measure_12 ?_
        refine lv_icmp_ge (tgt := 41) hx hb dX2_measure_15 (by decide) (fun c_15 => ?_) (fun c_15 => ?_)
        · have hx_15 : b.2.1 + 1 ≤ k := (nm_ge (by omega) (by omega)).mp c_15
          exact m_vret hx hb hr hlocks hK hw (Nat.le_of_ble_eq_true rfl) (Nat.le_of_ble_eq_true rfl) dX2_measure_41 (show wAx G ax x ++ (wAx G ay y ++ (wBd G a (b.1, b.2.1, b.2.2.1, b.2.2.2.1, (bdMeasK x y b.2.2.2.2 k)))) = wAx G ax x ++ (wAx G ay y ++ (wBd G a (bdMeas x y b))) by unfold bdMeas; rw [if_neg c_4, show k = b.2.1 + 1 by omega])
        · have hc_15 : ¬ b.2.1 + 1 ≤ k := fun h => c_15 ((nm_ge (by omega) (by omega)).mpr h)
          have hmk := bdOk_measK (x := x) (y := y) hok k k (by omega)
          refine lv_aload_n hx hb dX2_measure_18 rfl (lv_at hl 0 rfl) ?_
          refine lv_iload_n hx hb dX2_measure_19 rfl (lv_at hl 3 rfl) ?_
          have hwc : wW G A s.heap ((wAx G ax x ++ (wAx G ay y)) ++ ((wBd G a (b.1, b.2.1, b.2.2.1, b.2.2.2.1, (bdMeasK x y b.2.2.2.2 k))) ++ ([] : va_W))) H locs := hw
          refine r_callr (res := (a.2.2.2.2 k)) (u := wAx G ax x ++ (wAx G ay y)) (w := wBd G a (b.1, b.2.1, b.2.2.1, b.2.2.2.1, (bdMeasK x y b.2.2.2.2 k))) (v := ([] : va_W)) (va_runV (As := [.int (nI k - 1)]) (rest := []) ⟨hx, hb, hml, hown, hts⟩ (c_pocketAt l G a (b.1, b.2.1, b.2.2.1, b.2.2.2.1, (bdMeasK x y b.2.2.2.2 k)) (nI k - 1) k (nm_p k) (by first | assumption | omega | decide) H.size) (cwV 1 hts gX2_measure_X2_pocketAt rfl rfl rfl (by decide +kernel) ⟨Nat.le_of_ble_eq_true rfl, Nat.le_of_ble_eq_true rfl⟩) (r_preV (ci := 2) (q0 := 8) hK hwc rfl rfl rfl) rfl rfl hl.1 rfl (lv_room (Nat.le_of_ble_eq_true rfl)) dX2_measure_20 ⟨Nat.le_of_ble_eq_true rfl, Nat.le_of_ble_eq_true rfl⟩) hwc hA rfl rfl (fun H locs hw => ?_)
          have hw : wW G A s.heap (wAx G ax x ++ (wAx G ay y ++ (wBd G a (b.1, b.2.1, b.2.2.1, b.2.2.2.1, (bdMeasK x y b.2.2.2.2 k))))) H locs := hw
          refine lv_aload_n hx hb dX2_measure_23 rfl (lv_at hl 1 rfl) ?_
          refine lv_aload_n hx hb dX2_measure_24 rfl (lv_at hl 2 rfl) ?_
          refine lv_aload_n hx hb dX2_measure_25 rfl (lv_at hl 0 rfl) ?_
          have hwc : wW G A s.heap ((wAx G ax x ++ (wAx G ay y)) ++ ((wBd G a (b.1, b.2.1, b.2.2.1, b.2.2.2.1, (bdMeasK x y b.2.2.2.2 k))) ++ ([] : va_W))) H locs := hw
          refine r_callr (res := (a.2.2.2.2 0)) (u := wAx G ax x ++ (wAx G ay y)) (w := wBd G a (b.1, b.2.1, b.2.2.1, b.2.2.2.1, (bdMeasK x y b.2.2.2.2 k))) (v := ([] : va_W)) (va_runV (As := []) (rest := [.ref ay.1, .ref ax.1, .ref (a.2.2.2.2 k)]) ⟨hx, hb, hml, hown, hts⟩ (c_base l G a (b.1, b.2.1, b.2.2.1, b.2.2.2.1, (bdMeasK x y b.2.2.2.2 k)) H.size) (cwV 0 hts gX2_measure_X2_base rfl rfl rfl (by decide +kernel) ⟨Nat.le_of_ble_eq_true rfl, Nat.le_of_ble_eq_true rfl⟩) (r_preV (ci := 2) (q0 := 8) hK hwc rfl rfl rfl) rfl rfl hl.1 rfl (lv_room (Nat.le_of_ble_eq_true rfl)) dX2_measure_26 ⟨Nat.le_of_ble_eq_true rfl, Nat.le_of_ble_eq_true rfl⟩) hwc hA rfl rfl (fun H locs hw => ?_)
          have hw : wW G A s.heap (wAx G ax x ++ (wAx G ay y ++ (wBd G a (b.1, b.2.1, b.2.2.1, b.2.2.2.1, (bdMeasK x y b.2.2.2.2 k))))) H locs := hw
          refine r_get (ci := 1) (v := .int (((bdMeasK x y b.2.2.2.2 k) 0).2.2.1)) (C := RX1) (T := TX1) (N := 10) hx hb hts wiX2_measure_bdmeas_X1 hown hK hw (12 + 0) ((at_skip (n := 4) (j := 8 + 0) rfl (by omega)).trans ((at_skip (n := 4) (j := 4 + 0) rfl (by omega)).trans (bd_at (by omega)))) rfl 2 (by decide) wmX2_measure_bdmeas_2 (fun _ h9 => h9) rfl dX2_measure_29 ?_
          have hwc : wW G A s.heap (([] : va_W) ++ ((wAx G ax x ++ (wAx G ay y ++ (wBd G a (b.1, b.2.1, b.2.2.1, b.2.2.2.1, (bdMeasK x y b.2.2.2.2 k))))) ++ ([] : va_W))) H locs := hw
          have hrv : (wAx G ax x ++ (wAx G ay y ++ (wBd G a (b.1, b.2.1, b.2.2.1, b.2.2.2.1, (bdMeasK x y b.2.2.2.2 k)))))[(12 + k)]? = some (a.2.2.2.2 k, cBk a.2.2.2.2 ((bdMeasK x y b.2.2.2.2 k) k)) := (at_skip (n := 4) (j := 8 + k) rfl (by omega)).trans ((at_skip (n := 4) (j := 4 + k) rfl (by omega)).trans (bd_at (by omega)))
          refine r_callv (u := ([] : va_W)) (w := wAx G ax x ++ (wAx G ay y ++ (wBd G a (b.1, b.2.1, b.2.2.1, b.2.2.2.1, (bdMeasK x y b.2.2.2.2 k))))) (v := ([] : va_W)) (va_runV (As := [.ref ax.1, .ref ay.1, .int (((bdMeasK x y b.2.2.2.2 k) 0).2.2.1)]) (rest := []) ⟨hx, hb, hml, hown, hts⟩ (c_meas l G ax x ay y a (b.1, b.2.1, b.2.2.1, b.2.2.2.1, (bdMeasK x y b.2.2.2.2 k)) k (((bdMeasK x y b.2.2.2.2 k) 0).2.2.1) (by first | assumption | omega | decide) hmk.1 hmk.2.1 hmk.2.2 H.size) (cwV 3 hts gX2_measure_X1_measure rfl rfl rfl (by decide +kernel) ⟨Nat.le_of_ble_eq_true rfl, Nat.le_of_ble_eq_true rfl⟩) (r_preV (ci := 1) (q0 := (12 + k)) hK hwc hrv rfl rfl) rfl rfl hl.1 rfl (lv_room (Nat.le_of_ble_eq_true rfl)) dX2_measure_32 ⟨Nat.le_of_ble_eq_true rfl, Nat.le_of_ble_eq_true rfl⟩) hwc hA rfl rfl (fun H locs hw => ?_)
          have hw : wW G A s.heap (wAx G ax x ++ (wAx G ay y ++ (wBd G a (b.1, b.2.1, b.2.2.1, b.2.2.2.1, (updB (b.1, b.2.1, b.2.2.1, b.2.2.2.1, (bdMeasK x y b.2.2.2.2 k)).2.2.2.2 k (bkMeas x y (((bdMeasK x y b.2.2.2.2 k) 0).2.2.1) (b.1, b.2.1, b.2.2.1, b.2.2.2.1, (bdMeasK x y b.2.2.2.2 k)).2.2.2.2 k)))))) H locs := hw
          refine lv_iinc (v := (nI k - 1) + 1) (lv' := [(3, .int ((nI k - 1) + 1)), (0, .ref a.1), (1, .ref ax.1), (2, .ref ay.1)]) hx hb dX2_measure_35 hl (k := 3) rfl rfl (by decide) rfl (fun ls hl => ?_)
          refine lv_goto (tgt := 10) hx hb dX2_measure_38 (by decide) ?_
          exact ih_10 (k + 1) (by omega) (by first | assumption | omega | rfl) _ _ _ (wW.eq (show wAx G ax x ++ (wAx G ay y ++ (wBd G a (b.1, b.2.1, b.2.2.1, b.2.2.2.1, (updB (b.1, b.2.1, b.2.2.1, b.2.2.2.1, (bdMeasK x y b.2.2.2.2 k)).2.2.2.2 k (bkMeas x y (((bdMeasK x y b.2.2.2.2 k) 0).2.2.1) (b.1, b.2.1, b.2.2.1, b.2.2.2.1, (bdMeasK x y b.2.2.2.2 k)).2.2.2.2 k))))) = wAx G ax x ++ (wAx G ay y ++ (wBd G a (b.1, b.2.1, b.2.2.1, b.2.2.2.1, (bdMeasK x y b.2.2.2.2 (k + 1))))) from rfl) hw) (lv_sub hl [1, 2, 3, 0] (show lv_pick [(3, .int ((nI k - 1) + 1)), (0, .ref a.1), (1, .ref ax.1), (2, .ref ay.1)] [1, 2, 3, 0] = [(0, .ref a.1), (1, .ref ax.1), (2, .ref ay.1), (3, .int (nI (k + 1) - 1))] by rw [nm1]; rfl))
    exact loop_10 ((b.2.1 + 1 - 0) + 1) 0 (Nat.lt_succ_self _) (by first | assumption | omega | rfl) _ _ _ (wW.eq (show wAx G ax x ++ (wAx G ay y ++ (wBd G a b)) = wAx G ax x ++ (wAx G ay y ++ (wBd G a (b.1, b.2.1, b.2.2.1, b.2.2.2.1, (bdMeasK x y b.2.2.2.2 0)))) from rfl) hw) (lv_sub hl [1, 2, 3, 0] rfl)
  · exact m_vret hx hb hr hlocks hK hw (Nat.le_of_ble_eq_true rfl) (Nat.le_of_ble_eq_true rfl) dX2_measure_7 (show wAx G ax x ++ (wAx G ay y ++ (wBd G a b)) = wAx G ax x ++ (wAx G ay y ++ (wBd G a (bdMeas x y b))) by unfold bdMeas; rw [if_pos c_4])

theorem wiX2_wholeCells_whole_X1 : ∀ w ∈ wsX10, w ∈ wsX2_wholeCells := by decide +kernel
theorem wiX2_wholeCells_whole_X2 : ∀ w ∈ wsX20, w ∈ wsX2_wholeCells := by decide +kernel
theorem wmX2_wholeCells_whole_0 : Cond.fieldLink RX2 33 "PartSketch$Body" "hasBase" "Z" ∈ wsX2_wholeCells := by decide +kernel
theorem wmX2_wholeCells_whole_1 : Cond.fieldLink RX2 52 "PartSketch$Block" "failing" "Z" ∈ wsX2_wholeCells := by decide +kernel
set_option maxHeartbeats 4000000 in
set_option maxRecDepth 100000 in
/-- Body.wholeCells -/
theorem c_whole (l : Launch) (G : gT) (a : aBd) (b : tBd) (sz : Nat) : MI l yX2_wholeCells wsX2_wholeCells ({ frames := 1, cells := 0, slots := 0, locals := 20 }) G [.ref a.1] (wBd G a b) (wBd G a b) sz (bdWhole b) 0 0 := by
  refine m_of (Qc := fun A => (va_Qi (fun (r9 : Int32) (_ : Unit) => r9 = (bdWhole b)) (fun _ t9 => wPost G A (wBd G a b) t9) A)) (cc := cX2_wholeCells) (maxL := 1) (ret := (some .int)) (by decide) rfl (Nat.le_of_ble_eq_true rfl) ?_
  intro p e s m A below meth c H locs ls hx hb hr hts hown hlocks hin hml hK hA hw hl
  have hl : lv_has ls 1 [(0, .ref a.1)] := hl
  refine lv_aload_n hx hb dX2_wholeCells_0 rfl (lv_at hl 0 rfl) ?_
  refine r_get (ci := 2) (v := .int b.1) (C := RX2) (T := TX2) (N := 5) hx hb hts wiX2_wholeCells_whole_X2 hown hK hw 0 rfl rfl 0 (by decide) wmX2_wholeCells_whole_0 (fun _ h9 => h9) rfl dX2_wholeCells_1 ?_
  refine lv_if_eq (tgt := 27) hx hb dX2_wholeCells_4 (by decide) (fun c_4 => ?_) (fun c_4 => ?_)
  · refine lv_iconst (v := 0) hx hb dX2_wholeCells_27 (by decide) ?_
    exact m_iret hx hb hr hlocks hK hw (Nat.le_of_ble_eq_true rfl) (Nat.le_of_ble_eq_true rfl) dX2_wholeCells_28 (show (0 : Int32) = bdWhole b by first | rfl | (simp only [bdWhole, if_pos c_4]; first | done | rfl)) rfl
  · refine lv_aload_n hx hb dX2_wholeCells_7 rfl (lv_at hl 0 rfl) ?_
    have hwc : wW G A s.heap (([] : va_W) ++ ((wBd G a b) ++ ([] : va_W))) H locs := hw
    refine r_callr (res := (a.2.2.2.2 0)) (u := ([] : va_W)) (w := wBd G a b) (v := ([] : va_W)) (va_runV (As := []) (rest := []) ⟨hx, hb, hml, hown, hts⟩ (c_base l G a b H.size) (cwV 0 hts gX2_wholeCells_X2_base rfl rfl rfl (by decide +kernel) ⟨Nat.le_of_ble_eq_true rfl, Nat.le_of_ble_eq_true rfl⟩) (r_preV (ci := 2) (q0 := 0) hK hwc rfl rfl rfl) rfl rfl hl.1 rfl (lv_room (Nat.le_of_ble_eq_true rfl)) dX2_wholeCells_8 ⟨Nat.le_of_ble_eq_true rfl, Nat.le_of_ble_eq_true rfl⟩) hwc hA rfl rfl (fun H locs hw => ?_)
    have hw : wW G A s.heap (wBd G a b) H locs := hw
    refine r_get (ci := 1) (v := .int ((b.2.2.2.2 0).2.2.2.2.2.2.2.2.2)) (C := RX1) (T := TX1) (N := 10) hx hb hts wiX2_wholeCells_whole_X1 hown hK hw (4 + 0) (bd_at (by omega)) rfl 9 (by decide) wmX2_wholeCells_whole_1 (fun _ h9 => h9) rfl dX2_wholeCells_11 ?_
    refine lv_if_ne (tgt := 27) hx hb dX2_wholeCells_14 (by decide) (fun c_14 => ?_) (fun c_14 => ?_)
    · refine lv_iconst (v := 0) hx hb dX2_wholeCells_27 (by decide) ?_
      exact m_iret hx hb hr hlocks hK hw (Nat.le_of_ble_eq_true rfl) (Nat.le_of_ble_eq_true rfl) dX2_wholeCells_28 (show (0 : Int32) = bdWhole b by first | rfl | (simp only [bdWhole, if_neg c_4, if_neg c_14]; first | done | rfl)) rfl
    · refine lv_aload_n hx hb dX2_wholeCells_17 rfl (lv_at hl 0 rfl) ?_
      have hwc : wW G A s.heap (([] : va_W) ++ ((wBd G a b) ++ ([] : va_W))) H locs := hw
      refine r_callr (res := (a.2.2.2.2 0)) (u := ([] : va_W)) (w := wBd G a b) (v := ([] : va_W)) (va_runV (As := []) (rest := []) ⟨hx, hb, hml, hown, hts⟩ (c_base l G a b H.size) (cwV 0 hts gX2_wholeCells_X2_base rfl rfl rfl (by decide +kernel) ⟨Nat.le_of_ble_eq_true rfl, Nat.le_of_ble_eq_true rfl⟩) (r_preV (ci := 2) (q0 := 0) hK hwc rfl rfl rfl) rfl rfl hl.1 rfl (lv_room (Nat.le_of_ble_eq_true rfl)) dX2_wholeCells_18 ⟨Nat.le_of_ble_eq_true rfl, Nat.le_of_ble_eq_true rfl⟩) hwc hA rfl rfl (fun H locs hw => ?_)
      have hw : wW G A s.heap (wBd G a b) H locs := hw
      have hwc : wW G A s.heap (([] : va_W) ++ ((wBd G a b) ++ ([] : va_W))) H locs := hw
      have hrv : (wBd G a b)[(4 + 0)]? = some (a.2.2.2.2 0, cBk a.2.2.2.2 (b.2.2.2.2 0)) := bd_at (by omega)
      refine r_calli (res := (bkCells (b.2.2.2.2 0))) (u := ([] : va_W)) (w := wBd G a b) (v := ([] : va_W)) (va_runV (As := []) (rest := []) ⟨hx, hb, hml, hown, hts⟩ (c_cells l G a b 0 (by first | assumption | omega | decide) H.size) (cwV 0 hts gX2_wholeCells_X1_cells rfl rfl rfl (by decide +kernel) ⟨Nat.le_of_ble_eq_true rfl, Nat.le_of_ble_eq_true rfl⟩) (r_preV (ci := 1) (q0 := (4 + 0)) hK hwc hrv rfl rfl) rfl rfl hl.1 rfl (lv_room (Nat.le_of_ble_eq_true rfl)) dX2_wholeCells_21 ⟨Nat.le_of_ble_eq_true rfl, Nat.le_of_ble_eq_true rfl⟩) hwc hA rfl rfl (fun H locs hw => ?_)
      have hw : wW G A s.heap (wBd G a b) H locs := hw
      refine lv_goto (tgt := 28) hx hb dX2_wholeCells_24 (by decide) ?_
      exact m_iret hx hb hr hlocks hK hw (Nat.le_of_ble_eq_true rfl) (Nat.le_of_ble_eq_true rfl) dX2_wholeCells_28 (show (bkCells (b.2.2.2.2 0) : Int32) = bdWhole b by first | rfl | (simp only [bdWhole, if_neg c_4, if_pos c_14]; first | done | rfl)) rfl

set_option maxHeartbeats 4000000 in
set_option maxRecDepth 100000 in
/-- Body.insertSorted -/
theorem c_insx (l : Launch) (G : gT) (a : aBd) (b : tBd) (n : Nat) (v : Int32) (hn : n < 16) (sz : Nat) : MV l yX2_insertSorted wsX2_insertSorted ({ frames := 0, cells := 0, slots := 0, locals := 0 }) G [.ref a.2.2.1, .int (nI n), .int v] (wBd G a b) (wBd G a (b.1, b.2.1, (insA v n b.2.2.1), b.2.2.2.1, b.2.2.2.2)) sz 0 0 := by
  refine m_of (Qc := fun A => (va_Qv (fun (_ : Unit) => True) (fun _ t9 => wPost G A (wBd G a (b.1, b.2.1, (insA v n b.2.2.1), b.2.2.2.1, b.2.2.2.2)) t9) A)) (cc := cX2_insertSorted) (maxL := 4) (ret := none) (by decide) rfl (Nat.le_of_ble_eq_true rfl) ?_
  intro p e s m A below meth c H locs ls hx hb hr hts hown hlocks hin hml hK hA hw hl
  have hl : lv_has ls 4 [(0, .ref a.2.2.1), (1, .int (nI n)), (2, .int v)] := hl
  refine lv_iload_n hx hb dX2_insertSorted_0 rfl (lv_at hl 1 rfl) ?_
  refine lv_istore_n (lv' := [(3, .int (nI n)), (0, .ref a.2.2.1), (1, .int (nI n)), (2, .int v)]) hx hb dX2_insertSorted_1 rfl hl (by decide) rfl (fun ls hl => ?_)
  have loop_2 : ∀ (nf : Nat) (t : Nat) (f : Nat → Int32) (hnf : t < nf) (ht : t ≤ n) (hF : insA v t f = insA v n b.2.2.1), ∀ (H : Heap) (locs : List Loc) (ls : Array Slot), wW G A s.heap (wBd G a (b.1, b.2.1, f, b.2.2.2.1, b.2.2.2.2)) H locs → lv_has ls 4 [(0, .ref a.2.2.1), (1, .int (nI n)), (2, .int v), (3, .int (nI t))] → W p l e ({ frames := 0, cells := 0, slots := 0, locals := 0 }) s m [.ref a.2.2.1, .int (nI n), .int v].toArray below meth c H locs 0 0 (MQ below (va_Qv (fun (_ : Unit) => True) (fun _ t9 => wPost G A (wBd G a (b.1, b.2.1, (insA v n b.2.2.1), b.2.2.2.1, b.2.2.2.2)) t9) A) [.ref a.2.2.1, .int (nI n), .int v].toArray s 0 0 A) (F0 m 2 ls []) := by
    intro nf
    induction nf with
    | zero => intro t f hnf ht hF; exact absurd hnf (Nat.not_lt_zero _)
    | succ nf ih_2 =>
      intro t f hnf ht hF H locs ls hw hl
      refine lv_iload_n hx hb dX2_insertSorted_2 rfl (lv_at hl 3 rfl) ?_
      refine lv_if_le (tgt := 29) hx hb dX2_insertSorted_3 (by decide) (fun c_3 => ?_) (fun c_3 => ?_)
      · have ht0 : t = 0 := by have h := (nI_leI (a := t) (b := 0) (by omega) (by omega)).mp c_3; omega
        refine lv_aload_n hx hb dX2_insertSorted_29 rfl (lv_at hl 0 rfl) ?_
        refine lv_iload_n hx hb dX2_insertSorted_30 rfl (lv_at hl 3 rfl) ?_
        refine lv_iload_n hx hb dX2_insertSorted_31 rfl (lv_at hl 2 rfl) ?_
        refine r_iast hx hb hK hw 2 rfl t rfl (by omega) (by decide) dX2_insertSorted_32 (ws' := wBd G a (b.1, b.2.1, (upd f t v), b.2.2.2.1, b.2.2.2.2)) rfl (fun H locs hw => ?_)
        exact m_vret hx hb hr hlocks hK hw (Nat.le_of_ble_eq_true rfl) (Nat.le_of_ble_eq_true rfl) dX2_insertSorted_33 (show wBd G a (b.1, b.2.1, (upd f t v), b.2.2.2.1, b.2.2.2.2) = wBd G a (b.1, b.2.1, (insA v n b.2.2.1), b.2.2.2.1, b.2.2.2.2) by rw [← hF, ht0]; rfl)
      · have ht1 : 0 < t := by rcases Nat.eq_zero_or_pos t with h | h; exact absurd (by rw [h]; decide) c_3; exact h
        obtain ⟨q, rfl⟩ : ∃ q, t = q + 1 := ⟨t - 1, by omega⟩
        refine lv_aload_n hx hb dX2_insertSorted_6 rfl (lv_at hl 0 rfl) ?_
        refine lv_iload_n hx hb dX2_insertSorted_7 rfl (lv_at hl 3 rfl) ?_
        refine lv_iconst (v := 1) hx hb dX2_insertSorted_8 (by decide) ?_
        refine lv_isub hx hb dX2_insertSorted_9 ?_
        refine r_top (y := nI q) (nI_pred q) ?_
        refine r_iald (v := f q) hx hb hK hw 2 rfl q rfl (by omega) (by decide) rfl dX2_insertSorted_10 ?_
        refine lv_iload_n hx hb dX2_insertSorted_11 rfl (lv_at hl 2 rfl) ?_
        refine lv_icmp_le (tgt := 29) hx hb dX2_insertSorted_12 (by decide) (fun c_12 => ?_) (fun c_12 => ?_)
        · refine lv_aload_n hx hb dX2_insertSorted_29 rfl (lv_at hl 0 rfl) ?_
          refine lv_iload_n hx hb dX2_insertSorted_30 rfl (lv_at hl 3 rfl) ?_
          refine lv_iload_n hx hb dX2_insertSorted_31 rfl (lv_at hl 2 rfl) ?_
          refine r_iast hx hb hK hw 2 rfl (q + 1) rfl (by omega) (by decide) dX2_insertSorted_32 (ws' := wBd G a (b.1, b.2.1, (upd f (q + 1) v), b.2.2.2.1, b.2.2.2.2)) rfl (fun H locs hw => ?_)
          exact m_vret hx hb hr hlocks hK hw (Nat.le_of_ble_eq_true rfl) (Nat.le_of_ble_eq_true rfl) dX2_insertSorted_33 (show wBd G a (b.1, b.2.1, (upd f (q + 1) v), b.2.2.2.1, b.2.2.2.2) = wBd G a (b.1, b.2.1, (insA v n b.2.2.1), b.2.2.2.1, b.2.2.2.2) by rw [← hF]; show _ = wBd G a (_, _, if f q ≤ v then _ else _, _, _); unfold insA; rw [if_pos c_12])
        · refine lv_aload_n hx hb dX2_insertSorted_15 rfl (lv_at hl 0 rfl) ?_
          refine lv_iload_n hx hb dX2_insertSorted_16 rfl (lv_at hl 3 rfl) ?_
          refine lv_aload_n hx hb dX2_insertSorted_17 rfl (lv_at hl 0 rfl) ?_
          refine lv_iload_n hx hb dX2_insertSorted_18 rfl (lv_at hl 3 rfl) ?_
          refine lv_iconst (v := 1) hx hb dX2_insertSorted_19 (by decide) ?_
          refine lv_isub hx hb dX2_insertSorted_20 ?_
          refine r_top (y := nI q) (nI_pred q) ?_
          refine r_iald (v := f q) hx hb hK hw 2 rfl q rfl (by omega) (by decide) rfl dX2_insertSorted_21 ?_
          refine r_iast hx hb hK hw 2 rfl (q + 1) rfl (by omega) (by decide) dX2_insertSorted_22 (ws' := wBd G a (b.1, b.2.1, (upd f (q + 1) (f q)), b.2.2.2.1, b.2.2.2.2)) rfl (fun H locs hw => ?_)
          refine lv_iinc (v := nI q) (lv' := [(3, .int (nI q)), (0, .ref a.2.2.1), (1, .int (nI n)), (2, .int v)]) hx hb dX2_insertSorted_23 hl (k := 3) rfl (pk_m1 q) (by decide) rfl (fun ls hl => ?_)
          refine lv_goto (tgt := 2) hx hb dX2_insertSorted_26 (by decide) ?_
          exact ih_2 q (upd f (q + 1) (f q)) (by omega) (by omega) (by rw [← hF]; exact (if_neg c_12).symm) _ _ _ hw (lv_sub hl [1, 2, 3, 0] rfl)
  exact loop_2 (n + 1) n b.2.2.1 (Nat.lt_succ_self _) (by first | assumption | omega | rfl) (by first | assumption | omega | rfl) _ _ _ hw (lv_sub hl [1, 2, 3, 0] rfl)

set_option maxHeartbeats 4000000 in
set_option maxRecDepth 100000 in
/-- Body.insertSorted -/
theorem c_insy (l : Launch) (G : gT) (a : aBd) (b : tBd) (n : Nat) (v : Int32) (hn : n < 16) (sz : Nat) : MV l yX2_insertSorted wsX2_insertSorted ({ frames := 0, cells := 0, slots := 0, locals := 0 }) G [.ref a.2.2.2.1, .int (nI n), .int v] (wBd G a b) (wBd G a (b.1, b.2.1, b.2.2.1, (insA v n b.2.2.2.1), b.2.2.2.2)) sz 0 0 := by
  refine m_of (Qc := fun A => (va_Qv (fun (_ : Unit) => True) (fun _ t9 => wPost G A (wBd G a (b.1, b.2.1, b.2.2.1, (insA v n b.2.2.2.1), b.2.2.2.2)) t9) A)) (cc := cX2_insertSorted) (maxL := 4) (ret := none) (by decide) rfl (Nat.le_of_ble_eq_true rfl) ?_
  intro p e s m A below meth c H locs ls hx hb hr hts hown hlocks hin hml hK hA hw hl
  have hl : lv_has ls 4 [(0, .ref a.2.2.2.1), (1, .int (nI n)), (2, .int v)] := hl
  refine lv_iload_n hx hb dX2_insertSorted_0 rfl (lv_at hl 1 rfl) ?_
  refine lv_istore_n (lv' := [(3, .int (nI n)), (0, .ref a.2.2.2.1), (1, .int (nI n)), (2, .int v)]) hx hb dX2_insertSorted_1 rfl hl (by decide) rfl (fun ls hl => ?_)
  have loop_2 : ∀ (nf : Nat) (t : Nat) (f : Nat → Int32) (hnf : t < nf) (ht : t ≤ n) (hF : insA v t f = insA v n b.2.2.2.1), ∀ (H : Heap) (locs : List Loc) (ls : Array Slot), wW G A s.heap (wBd G a (b.1, b.2.1, b.2.2.1, f, b.2.2.2.2)) H locs → lv_has ls 4 [(0, .ref a.2.2.2.1), (1, .int (nI n)), (2, .int v), (3, .int (nI t))] → W p l e ({ frames := 0, cells := 0, slots := 0, locals := 0 }) s m [.ref a.2.2.2.1, .int (nI n), .int v].toArray below meth c H locs 0 0 (MQ below (va_Qv (fun (_ : Unit) => True) (fun _ t9 => wPost G A (wBd G a (b.1, b.2.1, b.2.2.1, (insA v n b.2.2.2.1), b.2.2.2.2)) t9) A) [.ref a.2.2.2.1, .int (nI n), .int v].toArray s 0 0 A) (F0 m 2 ls []) := by
    intro nf
    induction nf with
    | zero => intro t f hnf ht hF; exact absurd hnf (Nat.not_lt_zero _)
    | succ nf ih_2 =>
      intro t f hnf ht hF H locs ls hw hl
      refine lv_iload_n hx hb dX2_insertSorted_2 rfl (lv_at hl 3 rfl) ?_
      refine lv_if_le (tgt := 29) hx hb dX2_insertSorted_3 (by decide) (fun c_3 => ?_) (fun c_3 => ?_)
      · have ht0 : t = 0 := by have h := (nI_leI (a := t) (b := 0) (by omega) (by omega)).mp c_3; omega
        refine lv_aload_n hx hb dX2_insertSorted_29 rfl (lv_at hl 0 rfl) ?_
        refine lv_iload_n hx hb dX2_insertSorted_30 rfl (lv_at hl 3 rfl) ?_
        refine lv_iload_n hx hb dX2_insertSorted_31 rfl (lv_at hl 2 rfl) ?_
        refine r_iast hx hb hK hw 3 rfl t rfl (by omega) (by decide) dX2_insertSorted_32 (ws' := wBd G a (b.1, b.2.1, b.2.2.1, (upd f t v), b.2.2.2.2)) rfl (fun H locs hw => ?_)
        exact m_vret hx hb hr hlocks hK hw (Nat.le_of_ble_eq_true rfl) (Nat.le_of_ble_eq_true rfl) dX2_insertSorted_33 (show wBd G a (b.1, b.2.1, b.2.2.1, (upd f t v), b.2.2.2.2) = wBd G a (b.1, b.2.1, b.2.2.1, (insA v n b.2.2.2.1), b.2.2.2.2) by rw [← hF, ht0]; rfl)
      · have ht1 : 0 < t := by rcases Nat.eq_zero_or_pos t with h | h; exact absurd (by rw [h]; decide) c_3; exact h
        obtain ⟨q, rfl⟩ : ∃ q, t = q + 1 := ⟨t - 1, by omega⟩
        refine lv_aload_n hx hb dX2_insertSorted_6 rfl (lv_at hl 0 rfl) ?_
        refine lv_iload_n hx hb dX2_insertSorted_7 rfl (lv_at hl 3 rfl) ?_
        refine lv_iconst (v := 1) hx hb dX2_insertSorted_8 (by decide) ?_
        refine lv_isub hx hb dX2_insertSorted_9 ?_
        refine r_top (y := nI q) (nI_pred q) ?_
        refine r_iald (v := f q) hx hb hK hw 3 rfl q rfl (by omega) (by decide) rfl dX2_insertSorted_10 ?_
        refine lv_iload_n hx hb dX2_insertSorted_11 rfl (lv_at hl 2 rfl) ?_
        refine lv_icmp_le (tgt := 29) hx hb dX2_insertSorted_12 (by decide) (fun c_12 => ?_) (fun c_12 => ?_)
        · refine lv_aload_n hx hb dX2_insertSorted_29 rfl (lv_at hl 0 rfl) ?_
          refine lv_iload_n hx hb dX2_insertSorted_30 rfl (lv_at hl 3 rfl) ?_
          refine lv_iload_n hx hb dX2_insertSorted_31 rfl (lv_at hl 2 rfl) ?_
          refine r_iast hx hb hK hw 3 rfl (q + 1) rfl (by omega) (by decide) dX2_insertSorted_32 (ws' := wBd G a (b.1, b.2.1, b.2.2.1, (upd f (q + 1) v), b.2.2.2.2)) rfl (fun H locs hw => ?_)
          exact m_vret hx hb hr hlocks hK hw (Nat.le_of_ble_eq_true rfl) (Nat.le_of_ble_eq_true rfl) dX2_insertSorted_33 (show wBd G a (b.1, b.2.1, b.2.2.1, (upd f (q + 1) v), b.2.2.2.2) = wBd G a (b.1, b.2.1, b.2.2.1, (insA v n b.2.2.2.1), b.2.2.2.2) by rw [← hF]; show _ = wBd G a (_, _, _, if f q ≤ v then _ else _, _); unfold insA; rw [if_pos c_12])
        · refine lv_aload_n hx hb dX2_insertSorted_15 rfl (lv_at hl 0 rfl) ?_
          refine lv_iload_n hx hb dX2_insertSorted_16 rfl (lv_at hl 3 rfl) ?_
          refine lv_aload_n hx hb dX2_insertSorted_17 rfl (lv_at hl 0 rfl) ?_
          refine lv_iload_n hx hb dX2_insertSorted_18 rfl (lv_at hl 3 rfl) ?_
          refine lv_iconst (v := 1) hx hb dX2_insertSorted_19 (by decide) ?_
          refine lv_isub hx hb dX2_insertSorted_20 ?_
          refine r_top (y := nI q) (nI_pred q) ?_
          refine r_iald (v := f q) hx hb hK hw 3 rfl q rfl (by omega) (by decide) rfl dX2_insertSorted_21 ?_
          refine r_iast hx hb hK hw 3 rfl (q + 1) rfl (by omega) (by decide) dX2_insertSorted_22 (ws' := wBd G a (b.1, b.2.1, b.2.2.1, (upd f (q + 1) (f q)), b.2.2.2.2)) rfl (fun H locs hw => ?_)
          refine lv_iinc (v := nI q) (lv' := [(3, .int (nI q)), (0, .ref a.2.2.2.1), (1, .int (nI n)), (2, .int v)]) hx hb dX2_insertSorted_23 hl (k := 3) rfl (pk_m1 q) (by decide) rfl (fun ls hl => ?_)
          refine lv_goto (tgt := 2) hx hb dX2_insertSorted_26 (by decide) ?_
          exact ih_2 q (upd f (q + 1) (f q)) (by omega) (by omega) (by rw [← hF]; exact (if_neg c_12).symm) _ _ _ hw (lv_sub hl [1, 2, 3, 0] rfl)
  exact loop_2 (n + 1) n b.2.2.2.1 (Nat.lt_succ_self _) (by first | assumption | omega | rfl) (by first | assumption | omega | rfl) _ _ _ hw (lv_sub hl [1, 2, 3, 0] rfl)

theorem wiX2_gatherSides_gather_X1 : ∀ w ∈ wsX10, w ∈ wsX2_gatherSides := by decide +kernel
theorem wiX2_gatherSides_gather_X2 : ∀ w ∈ wsX20, w ∈ wsX2_gatherSides := by decide +kernel
theorem wmX2_gatherSides_gather_0 : Cond.fieldLink RX2 37 "PartSketch$Body" "pockets" "I" ∈ wsX2_gatherSides := by decide +kernel
theorem wmX2_gatherSides_gather_1 : Cond.fieldLink RX2 52 "PartSketch$Block" "failing" "Z" ∈ wsX2_gatherSides := by decide +kernel
theorem wmX2_gatherSides_gather_2 : Cond.fieldLink RX2 17 "PartSketch$Body" "xSides" "[I" ∈ wsX2_gatherSides := by decide +kernel
theorem wmX2_gatherSides_gather_3 : Cond.fieldLink RX2 72 "PartSketch$Block" "left" "I" ∈ wsX2_gatherSides := by decide +kernel
theorem wmX2_gatherSides_gather_4 : Cond.fieldLink RX2 21 "PartSketch$Body" "ySides" "[I" ∈ wsX2_gatherSides := by decide +kernel
theorem wmX2_gatherSides_gather_5 : Cond.fieldLink RX2 79 "PartSketch$Block" "low" "I" ∈ wsX2_gatherSides := by decide +kernel
theorem wmX2_gatherSides_gather_6 : Cond.fieldLink RX2 82 "PartSketch$Block" "right" "I" ∈ wsX2_gatherSides := by decide +kernel
theorem wmX2_gatherSides_gather_7 : Cond.fieldLink RX2 85 "PartSketch$Block" "high" "I" ∈ wsX2_gatherSides := by decide +kernel
set_option maxHeartbeats 4000000 in
set_option maxRecDepth 100000 in
/-- Body.gatherSides -/
theorem c_gather (l : Launch) (G : gT) (a : aBd) (b : tBd) (hn : b.2.1 ≤ 8) (sz : Nat) : MI l yX2_gatherSides wsX2_gatherSides ({ frames := 1, cells := 0, slots := 0, locals := 23 }) G [.ref a.1] (wBd G a b) (wBd G a (b.1, b.2.1, (bdGs b).2.1, (bdGs b).2.2, b.2.2.2.2)) sz (nI (bdGs b).1) 0 0 := by
  refine m_of (Qc := fun A => (va_Qi (fun (r9 : Int32) (_ : Unit) => r9 = (nI (bdGs b).1)) (fun _ t9 => wPost G A (wBd G a (b.1, b.2.1, (bdGs b).2.1, (bdGs b).2.2, b.2.2.2.2)) t9) A)) (cc := cX2_gatherSides) (maxL := 4) (ret := (some .int)) (by decide) rfl (Nat.le_of_ble_eq_true rfl) ?_
  intro p e s m A below meth c H locs ls hx hb hr hts hown hlocks hin hml hK hA hw hl
  have hl : lv_has ls 4 [(0, .ref a.1)] := hl
  refine lv_iconst (v := 0) hx hb dX2_gatherSides_0 (by decide) ?_
  refine lv_istore_n (lv' := [(1, .int 0), (0, .ref a.1)]) hx hb dX2_gatherSides_1 rfl hl (by decide) rfl (fun ls hl => ?_)
  refine lv_iconst (v := 0) hx hb dX2_gatherSides_2 (by decide) ?_
  refine lv_istore_n (lv' := [(2, .int 0), (1, .int 0), (0, .ref a.1)]) hx hb dX2_gatherSides_3 rfl hl (by decide) rfl (fun ls hl => ?_)
  have loop_4 : ∀ (nf : Nat) (k : Nat) (hnf : (b.2.1 - k) < nf) (hk : k ≤ b.2.1), ∀ (H : Heap) (locs : List Loc) (ls : Array Slot), wW G A s.heap (wBd G a (b.1, b.2.1, (gsK b.2.2.2.2 b.2.2.1 b.2.2.2.1 k).2.1, (gsK b.2.2.2.2 b.2.2.1 b.2.2.2.1 k).2.2, b.2.2.2.2)) H locs → lv_has ls 4 [(0, .ref a.1), (1, .int (nI (gsK b.2.2.2.2 b.2.2.1 b.2.2.2.1 k).1)), (2, .int (nI k))] → W p l e ({ frames := 1, cells := 0, slots := 0, locals := 23 }) s m [.ref a.1].toArray below meth c H locs 0 0 (MQ below (va_Qi (fun (r9 : Int32) (_ : Unit) => r9 = (nI (bdGs b).1)) (fun _ t9 => wPost G A (wBd G a (b.1, b.2.1, (bdGs b).2.1, (bdGs b).2.2, b.2.2.2.2)) t9) A) [.ref a.1].toArray s 0 0 A) (F0 m 4 ls []) := by
    intro nf
    induction nf with
    | zero => intro k hnf hk; exact absurd hnf (Nat.not_lt_zero _)
    | succ nf ih_4 =>
      intro k hnf hk H locs ls hw hl
      refine lv_iload_n hx hb dX2_gatherSides_4 rfl (lv_at hl 2 rfl) ?_
      refine lv_aload_n hx hb dX2_gatherSides_5 rfl (lv_at hl 0 rfl) ?_
      refine r_get (ci := 2) (v := .int (nI b.2.1)) (C := RX2) (T := TX2) (N := 5) hx hb hts wiX2_gatherSides_gather_X2 hown hK hw 0 rfl rfl 1 (by decide) wmX2_gatherSides_gather_0 (fun _ h9 => h9) rfl dX2_gatherSides_6 ?_
      refine lv_icmp_ge (tgt := 86) hx hb dX2_gatherSides_9 (by decide) (fun c_9 => ?_) (fun c_9 => ?_)
      · have hx_9 : b.2.1 ≤ k := ct_ge (k := k) (n := b.2.1) (by omega) (by omega) c_9
        refine lv_iload_n hx hb dX2_gatherSides_86 rfl (lv_at hl 1 rfl) ?_
        exact m_iret hx hb hr hlocks hK hw (Nat.le_of_ble_eq_true rfl) (Nat.le_of_ble_eq_true rfl) dX2_gatherSides_87 (show (nI (gsK b.2.2.2.2 b.2.2.1 b.2.2.2.1 k).1 : Int32) = nI (bdGs b).1 by rw [show k = b.2.1 by omega]; rfl) (show wBd G a (b.1, b.2.1, (gsK b.2.2.2.2 b.2.2.1 b.2.2.2.1 k).2.1, (gsK b.2.2.2.2 b.2.2.1 b.2.2.2.1 k).2.2, b.2.2.2.2) = wBd G a (b.1, b.2.1, (bdGs b).2.1, (bdGs b).2.2, b.2.2.2.2) by rw [show k = b.2.1 by omega]; rfl)
      · have hc_9 : k < b.2.1 := ct_nge (k := k) (n := b.2.1) (by omega) (by omega) c_9
        have hle := gsK_le b.2.2.2.2 b.2.2.1 b.2.2.2.1 k
        refine lv_aload_n hx hb dX2_gatherSides_12 rfl (lv_at hl 0 rfl) ?_
        refine lv_iload_n hx hb dX2_gatherSides_13 rfl (lv_at hl 2 rfl) ?_
        have hwc : wW G A s.heap (([] : va_W) ++ ((wBd G a (b.1, b.2.1, (gsK b.2.2.2.2 b.2.2.1 b.2.2.2.1 k).2.1, (gsK b.2.2.2.2 b.2.2.1 b.2.2.2.1 k).2.2, b.2.2.2.2)) ++ ([] : va_W))) H locs := hw
        refine r_callr (res := (a.2.2.2.2 (1 + k))) (u := ([] : va_W)) (w := wBd G a (b.1, b.2.1, (gsK b.2.2.2.2 b.2.2.1 b.2.2.2.1 k).2.1, (gsK b.2.2.2.2 b.2.2.1 b.2.2.2.1 k).2.2, b.2.2.2.2)) (v := ([] : va_W)) (va_runV (As := [.int (nI k)]) (rest := []) ⟨hx, hb, hml, hown, hts⟩ (c_pocketAt l G a (b.1, b.2.1, (gsK b.2.2.2.2 b.2.2.1 b.2.2.2.1 k).2.1, (gsK b.2.2.2.2 b.2.2.1 b.2.2.2.1 k).2.2, b.2.2.2.2) (nI k) (1 + k) (nI_add 1 k) (by first | assumption | omega | decide) H.size) (cwV 1 hts gX2_gatherSides_X2_pocketAt rfl rfl rfl (by decide +kernel) ⟨Nat.le_of_ble_eq_true rfl, Nat.le_of_ble_eq_true rfl⟩) (r_preV (ci := 2) (q0 := 0) hK hwc rfl rfl rfl) rfl rfl hl.1 rfl (lv_room (Nat.le_of_ble_eq_true rfl)) dX2_gatherSides_14 ⟨Nat.le_of_ble_eq_true rfl, Nat.le_of_ble_eq_true rfl⟩) hwc hA rfl rfl (fun H locs hw => ?_)
        have hw : wW G A s.heap (wBd G a (b.1, b.2.1, (gsK b.2.2.2.2 b.2.2.1 b.2.2.2.1 k).2.1, (gsK b.2.2.2.2 b.2.2.1 b.2.2.2.1 k).2.2, b.2.2.2.2)) H locs := hw
        refine lv_astore_n (lv' := [(3, .ref (a.2.2.2.2 (1 + k))), (0, .ref a.1), (1, .int (nI (gsK b.2.2.2.2 b.2.2.1 b.2.2.2.1 k).1)), (2, .int (nI k))]) hx hb dX2_gatherSides_17 rfl hl (by decide) rfl (fun ls hl => ?_)
        refine lv_aload_n hx hb dX2_gatherSides_18 rfl (lv_at hl 0 rfl) ?_
        refine r_get (ci := 1) (v := .int ((b.2.2.2.2 (1 + k)).2.2.2.2.2.2.2.2.2)) (C := RX1) (T := TX1) (N := 10) hx hb hts wiX2_gatherSides_gather_X1 hown hK hw (4 + (1 + k)) (bd_at (by omega)) rfl 9 (by decide) wmX2_gatherSides_gather_1 (fun _ h9 => h9) rfl dX2_gatherSides_19 ?_
        refine lv_if_ne (tgt := 80) hx hb dX2_gatherSides_22 (by decide) (fun c_22 => ?_) (fun c_22 => ?_)
        · refine lv_iinc (v := nI (k + 1)) (lv' := [(2, .int (nI (k + 1))), (3, .ref (a.2.2.2.2 (1 + k))), (0, .ref a.1), (1, .int (nI (gsK b.2.2.2.2 b.2.2.1 b.2.2.2.1 k).1))]) hx hb dX2_gatherSides_80 hl (k := 3) rfl (nI_add k 1) (by decide) rfl (fun ls hl => ?_)
          refine lv_goto (tgt := 4) hx hb dX2_gatherSides_83 (by decide) ?_
          exact ih_4 (k + 1) (by omega) (by first | assumption | omega | rfl) _ _ _ (wW.eq (show wBd G a (b.1, b.2.1, (gsK b.2.2.2.2 b.2.2.1 b.2.2.2.1 k).2.1, (gsK b.2.2.2.2 b.2.2.1 b.2.2.2.1 k).2.2, b.2.2.2.2) = wBd G a (b.1, b.2.1, (gsK b.2.2.2.2 b.2.2.1 b.2.2.2.1 (k + 1)).2.1, (gsK b.2.2.2.2 b.2.2.1 b.2.2.2.1 (k + 1)).2.2, b.2.2.2.2) from (by simp only [gsK, if_neg c_22])) hw) (lv_sub hl [2, 3, 0] (show lv_pick [(2, .int (nI (k + 1))), (3, .ref (a.2.2.2.2 (1 + k))), (0, .ref a.1), (1, .int (nI (gsK b.2.2.2.2 b.2.2.1 b.2.2.2.1 k).1))] [2, 3, 0] = [(0, .ref a.1), (1, .int (nI (gsK b.2.2.2.2 b.2.2.1 b.2.2.2.1 (k + 1)).1)), (2, .int (nI (k + 1)))] by simp only [gsK, if_neg c_22]; rfl))
        · refine lv_aload_n hx hb dX2_gatherSides_25 rfl (lv_at hl 1 rfl) ?_
          refine r_get (ci := 2) (v := .ref a.2.2.1) (C := RX2) (T := TX2) (N := 5) hx hb hts wiX2_gatherSides_gather_X2 hown hK hw 0 rfl rfl 3 (by decide) wmX2_gatherSides_gather_2 (fun _ h9 => h9) rfl dX2_gatherSides_26 ?_
          refine lv_iload_n hx hb dX2_gatherSides_29 rfl (lv_at hl 2 rfl) ?_
          refine lv_aload_n hx hb dX2_gatherSides_30 rfl (lv_at hl 0 rfl) ?_
          refine r_get (ci := 1) (v := .int ((b.2.2.2.2 (1 + k)).2.2.2.2.1)) (C := RX1) (T := TX1) (N := 10) hx hb hts wiX2_gatherSides_gather_X1 hown hK hw (4 + (1 + k)) (bd_at (by omega)) rfl 4 (by decide) wmX2_gatherSides_gather_3 (fun _ h9 => h9) rfl dX2_gatherSides_31 ?_
          have hwc : wW G A s.heap (([] : va_W) ++ ((wBd G a (b.1, b.2.1, (gsK b.2.2.2.2 b.2.2.1 b.2.2.2.1 k).2.1, (gsK b.2.2.2.2 b.2.2.1 b.2.2.2.1 k).2.2, b.2.2.2.2)) ++ ([] : va_W))) H locs := hw
          refine r_callv (u := ([] : va_W)) (w := wBd G a (b.1, b.2.1, (gsK b.2.2.2.2 b.2.2.1 b.2.2.2.1 k).2.1, (gsK b.2.2.2.2 b.2.2.1 b.2.2.2.1 k).2.2, b.2.2.2.2)) (v := ([] : va_W)) (va_runS (As := [.ref a.2.2.1, .int (nI (gsK b.2.2.2.2 b.2.2.1 b.2.2.2.1 k).1), .int ((b.2.2.2.2 (1 + k)).2.2.2.2.1)]) (rest := []) ⟨hx, hb, hml, hown, hts⟩ (c_insx l G a (b.1, b.2.1, (gsK b.2.2.2.2 b.2.2.1 b.2.2.2.1 k).2.1, (gsK b.2.2.2.2 b.2.2.1 b.2.2.2.1 k).2.2, b.2.2.2.2) ((gsK b.2.2.2.2 b.2.2.1 b.2.2.2.1 k).1) ((b.2.2.2.2 (1 + k)).2.2.2.2.1) (by first | assumption | omega | decide) H.size) (va_cwS 3 hts gX2_gatherSides_X2_insertSorted rfl rfl rfl (by decide +kernel) ⟨Nat.le_of_ble_eq_true rfl, Nat.le_of_ble_eq_true rfl⟩) (r_preS hK hwc) rfl rfl hl.1 rfl (lv_room (Nat.le_of_ble_eq_true rfl)) dX2_gatherSides_34 ⟨Nat.le_of_ble_eq_true rfl, Nat.le_of_ble_eq_true rfl⟩) hwc hA rfl rfl (fun H locs hw => ?_)
          have hw : wW G A s.heap (wBd G a (b.1, b.2.1, (insA ((b.2.2.2.2 (1 + k)).2.2.2.2.1) ((gsK b.2.2.2.2 b.2.2.1 b.2.2.2.1 k).1) (b.1, b.2.1, (gsK b.2.2.2.2 b.2.2.1 b.2.2.2.1 k).2.1, (gsK b.2.2.2.2 b.2.2.1 b.2.2.2.1 k).2.2, b.2.2.2.2).2.2.1), (gsK b.2.2.2.2 b.2.2.1 b.2.2.2.1 k).2.2, b.2.2.2.2)) H locs := hw
          refine lv_aload_n hx hb dX2_gatherSides_37 rfl (lv_at hl 1 rfl) ?_
          refine r_get (ci := 2) (v := .ref a.2.2.2.1) (C := RX2) (T := TX2) (N := 5) hx hb hts wiX2_gatherSides_gather_X2 hown hK hw 0 rfl rfl 4 (by decide) wmX2_gatherSides_gather_4 (fun _ h9 => h9) rfl dX2_gatherSides_38 ?_
          refine lv_iload_n hx hb dX2_gatherSides_41 rfl (lv_at hl 2 rfl) ?_
          refine lv_aload_n hx hb dX2_gatherSides_42 rfl (lv_at hl 0 rfl) ?_
          refine r_get (ci := 1) (v := .int ((b.2.2.2.2 (1 + k)).2.2.2.2.2.2.1)) (C := RX1) (T := TX1) (N := 10) hx hb hts wiX2_gatherSides_gather_X1 hown hK hw (4 + (1 + k)) (bd_at (by omega)) rfl 6 (by decide) wmX2_gatherSides_gather_5 (fun _ h9 => h9) rfl dX2_gatherSides_43 ?_
          have hwc : wW G A s.heap (([] : va_W) ++ ((wBd G a (b.1, b.2.1, (insA ((b.2.2.2.2 (1 + k)).2.2.2.2.1) ((gsK b.2.2.2.2 b.2.2.1 b.2.2.2.1 k).1) (b.1, b.2.1, (gsK b.2.2.2.2 b.2.2.1 b.2.2.2.1 k).2.1, (gsK b.2.2.2.2 b.2.2.1 b.2.2.2.1 k).2.2, b.2.2.2.2).2.2.1), (gsK b.2.2.2.2 b.2.2.1 b.2.2.2.1 k).2.2, b.2.2.2.2)) ++ ([] : va_W))) H locs := hw
          refine r_callv (u := ([] : va_W)) (w := wBd G a (b.1, b.2.1, (insA ((b.2.2.2.2 (1 + k)).2.2.2.2.1) ((gsK b.2.2.2.2 b.2.2.1 b.2.2.2.1 k).1) (b.1, b.2.1, (gsK b.2.2.2.2 b.2.2.1 b.2.2.2.1 k).2.1, (gsK b.2.2.2.2 b.2.2.1 b.2.2.2.1 k).2.2, b.2.2.2.2).2.2.1), (gsK b.2.2.2.2 b.2.2.1 b.2.2.2.1 k).2.2, b.2.2.2.2)) (v := ([] : va_W)) (va_runS (As := [.ref a.2.2.2.1, .int (nI (gsK b.2.2.2.2 b.2.2.1 b.2.2.2.1 k).1), .int ((b.2.2.2.2 (1 + k)).2.2.2.2.2.2.1)]) (rest := []) ⟨hx, hb, hml, hown, hts⟩ (c_insy l G a (b.1, b.2.1, (insA ((b.2.2.2.2 (1 + k)).2.2.2.2.1) ((gsK b.2.2.2.2 b.2.2.1 b.2.2.2.1 k).1) (b.1, b.2.1, (gsK b.2.2.2.2 b.2.2.1 b.2.2.2.1 k).2.1, (gsK b.2.2.2.2 b.2.2.1 b.2.2.2.1 k).2.2, b.2.2.2.2).2.2.1), (gsK b.2.2.2.2 b.2.2.1 b.2.2.2.1 k).2.2, b.2.2.2.2) ((gsK b.2.2.2.2 b.2.2.1 b.2.2.2.1 k).1) ((b.2.2.2.2 (1 + k)).2.2.2.2.2.2.1) (by first | assumption | omega | decide) H.size) (va_cwS 3 hts gX2_gatherSides_X2_insertSorted rfl rfl rfl (by decide +kernel) ⟨Nat.le_of_ble_eq_true rfl, Nat.le_of_ble_eq_true rfl⟩) (r_preS hK hwc) rfl rfl hl.1 rfl (lv_room (Nat.le_of_ble_eq_true rfl)) dX2_gatherSides_46 ⟨Nat.le_of_ble_eq_true rfl, Nat.le_of_ble_eq_true rfl⟩) hwc hA rfl rfl (fun H locs hw => ?_)
          have hw : wW G A s.heap (wBd G a (b.1, b.2.1, (insA ((b.2.2.2.2 (1 + k)).2.2.2.2.1) ((gsK b.2.2.2.2 b.2.2.1 b.2.2.2.1 k).1) (b.1, b.2.1, (gsK b.2.2.2.2 b.2.2.1 b.2.2.2.1 k).2.1, (gsK b.2.2.2.2 b.2.2.1 b.2.2.2.1 k).2.2, b.2.2.2.2).2.2.1), (insA ((b.2.2.2.2 (1 + k)).2.2.2.2.2.2.1) ((gsK b.2.2.2.2 b.2.2.1 b.2.2.2.1 k).1) (b.1, b.2.1, (insA ((b.2.2.2.2 (1 + k)).2.2.2.2.1) ((gsK b.2.2.2.2 b.2.2.1 b.2.2.2.1 k).1) (b.1, b.2.1, (gsK b.2.2.2.2 b.2.2.1 b.2.2.2.1 k).2.1, (gsK b.2.2.2.2 b.2.2.1 b.2.2.2.1 k).2.2, b.2.2.2.2).2.2.1), (gsK b.2.2.2.2 b.2.2.1 b.2.2.2.1 k).2.2, b.2.2.2.2).2.2.2.1), b.2.2.2.2)) H locs := hw
          refine lv_aload_n hx hb dX2_gatherSides_49 rfl (lv_at hl 1 rfl) ?_
          refine r_get (ci := 2) (v := .ref a.2.2.1) (C := RX2) (T := TX2) (N := 5) hx hb hts wiX2_gatherSides_gather_X2 hown hK hw 0 rfl rfl 3 (by decide) wmX2_gatherSides_gather_2 (fun _ h9 => h9) rfl dX2_gatherSides_50 ?_
          refine lv_iload_n hx hb dX2_gatherSides_53 rfl (lv_at hl 2 rfl) ?_
          refine lv_iconst (v := 1) hx hb dX2_gatherSides_54 (by decide) ?_
          refine lv_iadd hx hb dX2_gatherSides_55 ?_
          refine r_top (y := nI (((gsK b.2.2.2.2 b.2.2.1 b.2.2.2.1 k).1) + 1)) (nI_add ((gsK b.2.2.2.2 b.2.2.1 b.2.2.2.1 k).1) 1) ?_
          refine lv_aload_n hx hb dX2_gatherSides_56 rfl (lv_at hl 0 rfl) ?_
          refine r_get (ci := 1) (v := .int ((b.2.2.2.2 (1 + k)).2.2.2.2.2.1)) (C := RX1) (T := TX1) (N := 10) hx hb hts wiX2_gatherSides_gather_X1 hown hK hw (4 + (1 + k)) (bd_at (by omega)) rfl 5 (by decide) wmX2_gatherSides_gather_6 (fun _ h9 => h9) rfl dX2_gatherSides_57 ?_
          have hwc : wW G A s.heap (([] : va_W) ++ ((wBd G a (b.1, b.2.1, (insA ((b.2.2.2.2 (1 + k)).2.2.2.2.1) ((gsK b.2.2.2.2 b.2.2.1 b.2.2.2.1 k).1) (b.1, b.2.1, (gsK b.2.2.2.2 b.2.2.1 b.2.2.2.1 k).2.1, (gsK b.2.2.2.2 b.2.2.1 b.2.2.2.1 k).2.2, b.2.2.2.2).2.2.1), (insA ((b.2.2.2.2 (1 + k)).2.2.2.2.2.2.1) ((gsK b.2.2.2.2 b.2.2.1 b.2.2.2.1 k).1) (b.1, b.2.1, (insA ((b.2.2.2.2 (1 + k)).2.2.2.2.1) ((gsK b.2.2.2.2 b.2.2.1 b.2.2.2.1 k).1) (b.1, b.2.1, (gsK b.2.2.2.2 b.2.2.1 b.2.2.2.1 k).2.1, (gsK b.2.2.2.2 b.2.2.1 b.2.2.2.1 k).2.2, b.2.2.2.2).2.2.1), (gsK b.2.2.2.2 b.2.2.1 b.2.2.2.1 k).2.2, b.2.2.2.2).2.2.2.1), b.2.2.2.2)) ++ ([] : va_W))) H locs := hw
          refine r_callv (u := ([] : va_W)) (w := wBd G a (b.1, b.2.1, (insA ((b.2.2.2.2 (1 + k)).2.2.2.2.1) ((gsK b.2.2.2.2 b.2.2.1 b.2.2.2.1 k).1) (b.1, b.2.1, (gsK b.2.2.2.2 b.2.2.1 b.2.2.2.1 k).2.1, (gsK b.2.2.2.2 b.2.2.1 b.2.2.2.1 k).2.2, b.2.2.2.2).2.2.1), (insA ((b.2.2.2.2 (1 + k)).2.2.2.2.2.2.1) ((gsK b.2.2.2.2 b.2.2.1 b.2.2.2.1 k).1) (b.1, b.2.1, (insA ((b.2.2.2.2 (1 + k)).2.2.2.2.1) ((gsK b.2.2.2.2 b.2.2.1 b.2.2.2.1 k).1) (b.1, b.2.1, (gsK b.2.2.2.2 b.2.2.1 b.2.2.2.1 k).2.1, (gsK b.2.2.2.2 b.2.2.1 b.2.2.2.1 k).2.2, b.2.2.2.2).2.2.1), (gsK b.2.2.2.2 b.2.2.1 b.2.2.2.1 k).2.2, b.2.2.2.2).2.2.2.1), b.2.2.2.2)) (v := ([] : va_W)) (va_runS (As := [.ref a.2.2.1, .int (nI (((gsK b.2.2.2.2 b.2.2.1 b.2.2.2.1 k).1) + 1)), .int ((b.2.2.2.2 (1 + k)).2.2.2.2.2.1)]) (rest := []) ⟨hx, hb, hml, hown, hts⟩ (c_insx l G a (b.1, b.2.1, (insA ((b.2.2.2.2 (1 + k)).2.2.2.2.1) ((gsK b.2.2.2.2 b.2.2.1 b.2.2.2.1 k).1) (b.1, b.2.1, (gsK b.2.2.2.2 b.2.2.1 b.2.2.2.1 k).2.1, (gsK b.2.2.2.2 b.2.2.1 b.2.2.2.1 k).2.2, b.2.2.2.2).2.2.1), (insA ((b.2.2.2.2 (1 + k)).2.2.2.2.2.2.1) ((gsK b.2.2.2.2 b.2.2.1 b.2.2.2.1 k).1) (b.1, b.2.1, (insA ((b.2.2.2.2 (1 + k)).2.2.2.2.1) ((gsK b.2.2.2.2 b.2.2.1 b.2.2.2.1 k).1) (b.1, b.2.1, (gsK b.2.2.2.2 b.2.2.1 b.2.2.2.1 k).2.1, (gsK b.2.2.2.2 b.2.2.1 b.2.2.2.1 k).2.2, b.2.2.2.2).2.2.1), (gsK b.2.2.2.2 b.2.2.1 b.2.2.2.1 k).2.2, b.2.2.2.2).2.2.2.1), b.2.2.2.2) (((gsK b.2.2.2.2 b.2.2.1 b.2.2.2.1 k).1) + 1) ((b.2.2.2.2 (1 + k)).2.2.2.2.2.1) (by first | assumption | omega | decide) H.size) (va_cwS 3 hts gX2_gatherSides_X2_insertSorted rfl rfl rfl (by decide +kernel) ⟨Nat.le_of_ble_eq_true rfl, Nat.le_of_ble_eq_true rfl⟩) (r_preS hK hwc) rfl rfl hl.1 rfl (lv_room (Nat.le_of_ble_eq_true rfl)) dX2_gatherSides_60 ⟨Nat.le_of_ble_eq_true rfl, Nat.le_of_ble_eq_true rfl⟩) hwc hA rfl rfl (fun H locs hw => ?_)
          have hw : wW G A s.heap (wBd G a (b.1, b.2.1, (insA ((b.2.2.2.2 (1 + k)).2.2.2.2.2.1) (((gsK b.2.2.2.2 b.2.2.1 b.2.2.2.1 k).1) + 1) (b.1, b.2.1, (insA ((b.2.2.2.2 (1 + k)).2.2.2.2.1) ((gsK b.2.2.2.2 b.2.2.1 b.2.2.2.1 k).1) (b.1, b.2.1, (gsK b.2.2.2.2 b.2.2.1 b.2.2.2.1 k).2.1, (gsK b.2.2.2.2 b.2.2.1 b.2.2.2.1 k).2.2, b.2.2.2.2).2.2.1), (insA ((b.2.2.2.2 (1 + k)).2.2.2.2.2.2.1) ((gsK b.2.2.2.2 b.2.2.1 b.2.2.2.1 k).1) (b.1, b.2.1, (insA ((b.2.2.2.2 (1 + k)).2.2.2.2.1) ((gsK b.2.2.2.2 b.2.2.1 b.2.2.2.1 k).1) (b.1, b.2.1, (gsK b.2.2.2.2 b.2.2.1 b.2.2.2.1 k).2.1, (gsK b.2.2.2.2 b.2.2.1 b.2.2.2.1 k).2.2, b.2.2.2.2).2.2.1), (gsK b.2.2.2.2 b.2.2.1 b.2.2.2.1 k).2.2, b.2.2.2.2).2.2.2.1), b.2.2.2.2).2.2.1), (insA ((b.2.2.2.2 (1 + k)).2.2.2.2.2.2.1) ((gsK b.2.2.2.2 b.2.2.1 b.2.2.2.1 k).1) (b.1, b.2.1, (insA ((b.2.2.2.2 (1 + k)).2.2.2.2.1) ((gsK b.2.2.2.2 b.2.2.1 b.2.2.2.1 k).1) (b.1, b.2.1, (gsK b.2.2.2.2 b.2.2.1 b.2.2.2.1 k).2.1, (gsK b.2.2.2.2 b.2.2.1 b.2.2.2.1 k).2.2, b.2.2.2.2).2.2.1), (gsK b.2.2.2.2 b.2.2.1 b.2.2.2.1 k).2.2, b.2.2.2.2).2.2.2.1), b.2.2.2.2)) H locs := hw
          refine lv_aload_n hx hb dX2_gatherSides_63 rfl (lv_at hl 1 rfl) ?_
          refine r_get (ci := 2) (v := .ref a.2.2.2.1) (C := RX2) (T := TX2) (N := 5) hx hb hts wiX2_gatherSides_gather_X2 hown hK hw 0 rfl rfl 4 (by decide) wmX2_gatherSides_gather_4 (fun _ h9 => h9) rfl dX2_gatherSides_64 ?_
          refine lv_iload_n hx hb dX2_gatherSides_67 rfl (lv_at hl 2 rfl) ?_
          refine lv_iconst (v := 1) hx hb dX2_gatherSides_68 (by decide) ?_
          refine lv_iadd hx hb dX2_gatherSides_69 ?_
          refine r_top (y := nI (((gsK b.2.2.2.2 b.2.2.1 b.2.2.2.1 k).1) + 1)) (nI_add ((gsK b.2.2.2.2 b.2.2.1 b.2.2.2.1 k).1) 1) ?_
          refine lv_aload_n hx hb dX2_gatherSides_70 rfl (lv_at hl 0 rfl) ?_
          refine r_get (ci := 1) (v := .int ((b.2.2.2.2 (1 + k)).2.2.2.2.2.2.2.1)) (C := RX1) (T := TX1) (N := 10) hx hb hts wiX2_gatherSides_gather_X1 hown hK hw (4 + (1 + k)) (bd_at (by omega)) rfl 7 (by decide) wmX2_gatherSides_gather_7 (fun _ h9 => h9) rfl dX2_gatherSides_71 ?_
          have hwc : wW G A s.heap (([] : va_W) ++ ((wBd G a (b.1, b.2.1, (insA ((b.2.2.2.2 (1 + k)).2.2.2.2.2.1) (((gsK b.2.2.2.2 b.2.2.1 b.2.2.2.1 k).1) + 1) (b.1, b.2.1, (insA ((b.2.2.2.2 (1 + k)).2.2.2.2.1) ((gsK b.2.2.2.2 b.2.2.1 b.2.2.2.1 k).1) (b.1, b.2.1, (gsK b.2.2.2.2 b.2.2.1 b.2.2.2.1 k).2.1, (gsK b.2.2.2.2 b.2.2.1 b.2.2.2.1 k).2.2, b.2.2.2.2).2.2.1), (insA ((b.2.2.2.2 (1 + k)).2.2.2.2.2.2.1) ((gsK b.2.2.2.2 b.2.2.1 b.2.2.2.1 k).1) (b.1, b.2.1, (insA ((b.2.2.2.2 (1 + k)).2.2.2.2.1) ((gsK b.2.2.2.2 b.2.2.1 b.2.2.2.1 k).1) (b.1, b.2.1, (gsK b.2.2.2.2 b.2.2.1 b.2.2.2.1 k).2.1, (gsK b.2.2.2.2 b.2.2.1 b.2.2.2.1 k).2.2, b.2.2.2.2).2.2.1), (gsK b.2.2.2.2 b.2.2.1 b.2.2.2.1 k).2.2, b.2.2.2.2).2.2.2.1), b.2.2.2.2).2.2.1), (insA ((b.2.2.2.2 (1 + k)).2.2.2.2.2.2.1) ((gsK b.2.2.2.2 b.2.2.1 b.2.2.2.1 k).1) (b.1, b.2.1, (insA ((b.2.2.2.2 (1 + k)).2.2.2.2.1) ((gsK b.2.2.2.2 b.2.2.1 b.2.2.2.1 k).1) (b.1, b.2.1, (gsK b.2.2.2.2 b.2.2.1 b.2.2.2.1 k).2.1, (gsK b.2.2.2.2 b.2.2.1 b.2.2.2.1 k).2.2, b.2.2.2.2).2.2.1), (gsK b.2.2.2.2 b.2.2.1 b.2.2.2.1 k).2.2, b.2.2.2.2).2.2.2.1), b.2.2.2.2)) ++ ([] : va_W))) H locs := hw
          refine r_callv (u := ([] : va_W)) (w := wBd G a (b.1, b.2.1, (insA ((b.2.2.2.2 (1 + k)).2.2.2.2.2.1) (((gsK b.2.2.2.2 b.2.2.1 b.2.2.2.1 k).1) + 1) (b.1, b.2.1, (insA ((b.2.2.2.2 (1 + k)).2.2.2.2.1) ((gsK b.2.2.2.2 b.2.2.1 b.2.2.2.1 k).1) (b.1, b.2.1, (gsK b.2.2.2.2 b.2.2.1 b.2.2.2.1 k).2.1, (gsK b.2.2.2.2 b.2.2.1 b.2.2.2.1 k).2.2, b.2.2.2.2).2.2.1), (insA ((b.2.2.2.2 (1 + k)).2.2.2.2.2.2.1) ((gsK b.2.2.2.2 b.2.2.1 b.2.2.2.1 k).1) (b.1, b.2.1, (insA ((b.2.2.2.2 (1 + k)).2.2.2.2.1) ((gsK b.2.2.2.2 b.2.2.1 b.2.2.2.1 k).1) (b.1, b.2.1, (gsK b.2.2.2.2 b.2.2.1 b.2.2.2.1 k).2.1, (gsK b.2.2.2.2 b.2.2.1 b.2.2.2.1 k).2.2, b.2.2.2.2).2.2.1), (gsK b.2.2.2.2 b.2.2.1 b.2.2.2.1 k).2.2, b.2.2.2.2).2.2.2.1), b.2.2.2.2).2.2.1), (insA ((b.2.2.2.2 (1 + k)).2.2.2.2.2.2.1) ((gsK b.2.2.2.2 b.2.2.1 b.2.2.2.1 k).1) (b.1, b.2.1, (insA ((b.2.2.2.2 (1 + k)).2.2.2.2.1) ((gsK b.2.2.2.2 b.2.2.1 b.2.2.2.1 k).1) (b.1, b.2.1, (gsK b.2.2.2.2 b.2.2.1 b.2.2.2.1 k).2.1, (gsK b.2.2.2.2 b.2.2.1 b.2.2.2.1 k).2.2, b.2.2.2.2).2.2.1), (gsK b.2.2.2.2 b.2.2.1 b.2.2.2.1 k).2.2, b.2.2.2.2).2.2.2.1), b.2.2.2.2)) (v := ([] : va_W)) (va_runS (As := [.ref a.2.2.2.1, .int (nI (((gsK b.2.2.2.2 b.2.2.1 b.2.2.2.1 k).1) + 1)), .int ((b.2.2.2.2 (1 + k)).2.2.2.2.2.2.2.1)]) (rest := []) ⟨hx, hb, hml, hown, hts⟩ (c_insy l G a (b.1, b.2.1, (insA ((b.2.2.2.2 (1 + k)).2.2.2.2.2.1) (((gsK b.2.2.2.2 b.2.2.1 b.2.2.2.1 k).1) + 1) (b.1, b.2.1, (insA ((b.2.2.2.2 (1 + k)).2.2.2.2.1) ((gsK b.2.2.2.2 b.2.2.1 b.2.2.2.1 k).1) (b.1, b.2.1, (gsK b.2.2.2.2 b.2.2.1 b.2.2.2.1 k).2.1, (gsK b.2.2.2.2 b.2.2.1 b.2.2.2.1 k).2.2, b.2.2.2.2).2.2.1), (insA ((b.2.2.2.2 (1 + k)).2.2.2.2.2.2.1) ((gsK b.2.2.2.2 b.2.2.1 b.2.2.2.1 k).1) (b.1, b.2.1, (insA ((b.2.2.2.2 (1 + k)).2.2.2.2.1) ((gsK b.2.2.2.2 b.2.2.1 b.2.2.2.1 k).1) (b.1, b.2.1, (gsK b.2.2.2.2 b.2.2.1 b.2.2.2.1 k).2.1, (gsK b.2.2.2.2 b.2.2.1 b.2.2.2.1 k).2.2, b.2.2.2.2).2.2.1), (gsK b.2.2.2.2 b.2.2.1 b.2.2.2.1 k).2.2, b.2.2.2.2).2.2.2.1), b.2.2.2.2).2.2.1), (insA ((b.2.2.2.2 (1 + k)).2.2.2.2.2.2.1) ((gsK b.2.2.2.2 b.2.2.1 b.2.2.2.1 k).1) (b.1, b.2.1, (insA ((b.2.2.2.2 (1 + k)).2.2.2.2.1) ((gsK b.2.2.2.2 b.2.2.1 b.2.2.2.1 k).1) (b.1, b.2.1, (gsK b.2.2.2.2 b.2.2.1 b.2.2.2.1 k).2.1, (gsK b.2.2.2.2 b.2.2.1 b.2.2.2.1 k).2.2, b.2.2.2.2).2.2.1), (gsK b.2.2.2.2 b.2.2.1 b.2.2.2.1 k).2.2, b.2.2.2.2).2.2.2.1), b.2.2.2.2) (((gsK b.2.2.2.2 b.2.2.1 b.2.2.2.1 k).1) + 1) ((b.2.2.2.2 (1 + k)).2.2.2.2.2.2.2.1) (by first | assumption | omega | decide) H.size) (va_cwS 3 hts gX2_gatherSides_X2_insertSorted rfl rfl rfl (by decide +kernel) ⟨Nat.le_of_ble_eq_true rfl, Nat.le_of_ble_eq_true rfl⟩) (r_preS hK hwc) rfl rfl hl.1 rfl (lv_room (Nat.le_of_ble_eq_true rfl)) dX2_gatherSides_74 ⟨Nat.le_of_ble_eq_true rfl, Nat.le_of_ble_eq_true rfl⟩) hwc hA rfl rfl (fun H locs hw => ?_)
          have hw : wW G A s.heap (wBd G a (b.1, b.2.1, (insA ((b.2.2.2.2 (1 + k)).2.2.2.2.2.1) (((gsK b.2.2.2.2 b.2.2.1 b.2.2.2.1 k).1) + 1) (b.1, b.2.1, (insA ((b.2.2.2.2 (1 + k)).2.2.2.2.1) ((gsK b.2.2.2.2 b.2.2.1 b.2.2.2.1 k).1) (b.1, b.2.1, (gsK b.2.2.2.2 b.2.2.1 b.2.2.2.1 k).2.1, (gsK b.2.2.2.2 b.2.2.1 b.2.2.2.1 k).2.2, b.2.2.2.2).2.2.1), (insA ((b.2.2.2.2 (1 + k)).2.2.2.2.2.2.1) ((gsK b.2.2.2.2 b.2.2.1 b.2.2.2.1 k).1) (b.1, b.2.1, (insA ((b.2.2.2.2 (1 + k)).2.2.2.2.1) ((gsK b.2.2.2.2 b.2.2.1 b.2.2.2.1 k).1) (b.1, b.2.1, (gsK b.2.2.2.2 b.2.2.1 b.2.2.2.1 k).2.1, (gsK b.2.2.2.2 b.2.2.1 b.2.2.2.1 k).2.2, b.2.2.2.2).2.2.1), (gsK b.2.2.2.2 b.2.2.1 b.2.2.2.1 k).2.2, b.2.2.2.2).2.2.2.1), b.2.2.2.2).2.2.1), (insA ((b.2.2.2.2 (1 + k)).2.2.2.2.2.2.2.1) (((gsK b.2.2.2.2 b.2.2.1 b.2.2.2.1 k).1) + 1) (b.1, b.2.1, (insA ((b.2.2.2.2 (1 + k)).2.2.2.2.2.1) (((gsK b.2.2.2.2 b.2.2.1 b.2.2.2.1 k).1) + 1) (b.1, b.2.1, (insA ((b.2.2.2.2 (1 + k)).2.2.2.2.1) ((gsK b.2.2.2.2 b.2.2.1 b.2.2.2.1 k).1) (b.1, b.2.1, (gsK b.2.2.2.2 b.2.2.1 b.2.2.2.1 k).2.1, (gsK b.2.2.2.2 b.2.2.1 b.2.2.2.1 k).2.2, b.2.2.2.2).2.2.1), (insA ((b.2.2.2.2 (1 + k)).2.2.2.2.2.2.1) ((gsK b.2.2.2.2 b.2.2.1 b.2.2.2.1 k).1) (b.1, b.2.1, (insA ((b.2.2.2.2 (1 + k)).2.2.2.2.1) ((gsK b.2.2.2.2 b.2.2.1 b.2.2.2.1 k).1) (b.1, b.2.1, (gsK b.2.2.2.2 b.2.2.1 b.2.2.2.1 k).2.1, (gsK b.2.2.2.2 b.2.2.1 b.2.2.2.1 k).2.2, b.2.2.2.2).2.2.1), (gsK b.2.2.2.2 b.2.2.1 b.2.2.2.1 k).2.2, b.2.2.2.2).2.2.2.1), b.2.2.2.2).2.2.1), (insA ((b.2.2.2.2 (1 + k)).2.2.2.2.2.2.1) ((gsK b.2.2.2.2 b.2.2.1 b.2.2.2.1 k).1) (b.1, b.2.1, (insA ((b.2.2.2.2 (1 + k)).2.2.2.2.1) ((gsK b.2.2.2.2 b.2.2.1 b.2.2.2.1 k).1) (b.1, b.2.1, (gsK b.2.2.2.2 b.2.2.1 b.2.2.2.1 k).2.1, (gsK b.2.2.2.2 b.2.2.1 b.2.2.2.1 k).2.2, b.2.2.2.2).2.2.1), (gsK b.2.2.2.2 b.2.2.1 b.2.2.2.1 k).2.2, b.2.2.2.2).2.2.2.1), b.2.2.2.2).2.2.2.1), b.2.2.2.2)) H locs := hw
          refine lv_iinc (v := nI (((gsK b.2.2.2.2 b.2.2.1 b.2.2.2.1 k).1) + 2)) (lv' := [(1, .int (nI (((gsK b.2.2.2.2 b.2.2.1 b.2.2.2.1 k).1) + 2))), (3, .ref (a.2.2.2.2 (1 + k))), (0, .ref a.1), (2, .int (nI k))]) hx hb dX2_gatherSides_77 hl (k := 2) rfl (nI_add ((gsK b.2.2.2.2 b.2.2.1 b.2.2.2.1 k).1) 2) (by decide) rfl (fun ls hl => ?_)
          refine lv_iinc (v := nI (k + 1)) (lv' := [(2, .int (nI (k + 1))), (1, .int (nI (((gsK b.2.2.2.2 b.2.2.1 b.2.2.2.1 k).1) + 2))), (3, .ref (a.2.2.2.2 (1 + k))), (0, .ref a.1)]) hx hb dX2_gatherSides_80 hl (k := 3) rfl (nI_add k 1) (by decide) rfl (fun ls hl => ?_)
          refine lv_goto (tgt := 4) hx hb dX2_gatherSides_83 (by decide) ?_
          exact ih_4 (k + 1) (by omega) (by first | assumption | omega | rfl) _ _ _ (wW.eq (show wBd G a (b.1, b.2.1, (insA ((b.2.2.2.2 (1 + k)).2.2.2.2.2.1) (((gsK b.2.2.2.2 b.2.2.1 b.2.2.2.1 k).1) + 1) (b.1, b.2.1, (insA ((b.2.2.2.2 (1 + k)).2.2.2.2.1) ((gsK b.2.2.2.2 b.2.2.1 b.2.2.2.1 k).1) (b.1, b.2.1, (gsK b.2.2.2.2 b.2.2.1 b.2.2.2.1 k).2.1, (gsK b.2.2.2.2 b.2.2.1 b.2.2.2.1 k).2.2, b.2.2.2.2).2.2.1), (insA ((b.2.2.2.2 (1 + k)).2.2.2.2.2.2.1) ((gsK b.2.2.2.2 b.2.2.1 b.2.2.2.1 k).1) (b.1, b.2.1, (insA ((b.2.2.2.2 (1 + k)).2.2.2.2.1) ((gsK b.2.2.2.2 b.2.2.1 b.2.2.2.1 k).1) (b.1, b.2.1, (gsK b.2.2.2.2 b.2.2.1 b.2.2.2.1 k).2.1, (gsK b.2.2.2.2 b.2.2.1 b.2.2.2.1 k).2.2, b.2.2.2.2).2.2.1), (gsK b.2.2.2.2 b.2.2.1 b.2.2.2.1 k).2.2, b.2.2.2.2).2.2.2.1), b.2.2.2.2).2.2.1), (insA ((b.2.2.2.2 (1 + k)).2.2.2.2.2.2.2.1) (((gsK b.2.2.2.2 b.2.2.1 b.2.2.2.1 k).1) + 1) (b.1, b.2.1, (insA ((b.2.2.2.2 (1 + k)).2.2.2.2.2.1) (((gsK b.2.2.2.2 b.2.2.1 b.2.2.2.1 k).1) + 1) (b.1, b.2.1, (insA ((b.2.2.2.2 (1 + k)).2.2.2.2.1) ((gsK b.2.2.2.2 b.2.2.1 b.2.2.2.1 k).1) (b.1, b.2.1, (gsK b.2.2.2.2 b.2.2.1 b.2.2.2.1 k).2.1, (gsK b.2.2.2.2 b.2.2.1 b.2.2.2.1 k).2.2, b.2.2.2.2).2.2.1), (insA ((b.2.2.2.2 (1 + k)).2.2.2.2.2.2.1) ((gsK b.2.2.2.2 b.2.2.1 b.2.2.2.1 k).1) (b.1, b.2.1, (insA ((b.2.2.2.2 (1 + k)).2.2.2.2.1) ((gsK b.2.2.2.2 b.2.2.1 b.2.2.2.1 k).1) (b.1, b.2.1, (gsK b.2.2.2.2 b.2.2.1 b.2.2.2.1 k).2.1, (gsK b.2.2.2.2 b.2.2.1 b.2.2.2.1 k).2.2, b.2.2.2.2).2.2.1), (gsK b.2.2.2.2 b.2.2.1 b.2.2.2.1 k).2.2, b.2.2.2.2).2.2.2.1), b.2.2.2.2).2.2.1), (insA ((b.2.2.2.2 (1 + k)).2.2.2.2.2.2.1) ((gsK b.2.2.2.2 b.2.2.1 b.2.2.2.1 k).1) (b.1, b.2.1, (insA ((b.2.2.2.2 (1 + k)).2.2.2.2.1) ((gsK b.2.2.2.2 b.2.2.1 b.2.2.2.1 k).1) (b.1, b.2.1, (gsK b.2.2.2.2 b.2.2.1 b.2.2.2.1 k).2.1, (gsK b.2.2.2.2 b.2.2.1 b.2.2.2.1 k).2.2, b.2.2.2.2).2.2.1), (gsK b.2.2.2.2 b.2.2.1 b.2.2.2.1 k).2.2, b.2.2.2.2).2.2.2.1), b.2.2.2.2).2.2.2.1), b.2.2.2.2) = wBd G a (b.1, b.2.1, (gsK b.2.2.2.2 b.2.2.1 b.2.2.2.1 (k + 1)).2.1, (gsK b.2.2.2.2 b.2.2.1 b.2.2.2.1 (k + 1)).2.2, b.2.2.2.2) from (by simp only [gsK, if_pos c_22])) hw) (lv_sub hl [3, 1, 0] (show lv_pick [(2, .int (nI (k + 1))), (1, .int (nI (((gsK b.2.2.2.2 b.2.2.1 b.2.2.2.1 k).1) + 2))), (3, .ref (a.2.2.2.2 (1 + k))), (0, .ref a.1)] [3, 1, 0] = [(0, .ref a.1), (1, .int (nI (gsK b.2.2.2.2 b.2.2.1 b.2.2.2.1 (k + 1)).1)), (2, .int (nI (k + 1)))] by simp only [gsK, if_pos c_22]; rfl))
  exact loop_4 ((b.2.1 - 0) + 1) 0 (Nat.lt_succ_self _) (by first | assumption | omega | rfl) _ _ _ (wW.eq (show wBd G a b = wBd G a (b.1, b.2.1, (gsK b.2.2.2.2 b.2.2.1 b.2.2.2.1 0).2.1, (gsK b.2.2.2.2 b.2.2.1 b.2.2.2.1 0).2.2, b.2.2.2.2) from rfl) hw) (lv_sub hl [2, 1, 0] rfl)

theorem wiX2_layersTaken_layersTaken_X1 : ∀ w ∈ wsX10, w ∈ wsX2_layersTaken := by decide +kernel
theorem wiX2_layersTaken_layersTaken_X2 : ∀ w ∈ wsX20, w ∈ wsX2_layersTaken := by decide +kernel
theorem wmX2_layersTaken_layersTaken_0 : Cond.fieldLink RX2 37 "PartSketch$Body" "pockets" "I" ∈ wsX2_layersTaken := by decide +kernel
theorem wmX2_layersTaken_layersTaken_1 : Cond.fieldLink RX2 52 "PartSketch$Block" "failing" "Z" ∈ wsX2_layersTaken := by decide +kernel
set_option maxHeartbeats 4000000 in
set_option maxRecDepth 100000 in
/-- Body.layersTaken -/
theorem c_layersTaken (l : Launch) (G : gT) (a : aBd) (b : tBd) (u : Int32) (v : Int32) (hn : b.2.1 ≤ 8) (sz : Nat) : MI l yX2_layersTaken wsX2_layersTaken ({ frames := 1, cells := 0, slots := 0, locals := 22 }) G [.ref a.1, .int u, .int v] (wBd G a b) (wBd G a b) sz (bitc (ltK b.2.2.2.2 u v b.2.1)) 0 0 := by
  refine m_of (Qc := fun A => (va_Qi (fun (r9 : Int32) (_ : Unit) => r9 = (bitc (ltK b.2.2.2.2 u v b.2.1))) (fun _ t9 => wPost G A (wBd G a b) t9) A)) (cc := cX2_layersTaken) (maxL := 7) (ret := (some .int)) (by decide) rfl (Nat.le_of_ble_eq_true rfl) ?_
  intro p e s m A below meth c H locs ls hx hb hr hts hown hlocks hin hml hK hA hw hl
  have hl : lv_has ls 7 [(0, .ref a.1), (1, .int u), (2, .int v)] := hl
  refine lv_lconst (v := 0) hx hb dX2_layersTaken_0 (by decide) ?_
  refine lv_lstore_n (lv' := [(3, .long 0), (0, .ref a.1), (1, .int u), (2, .int v)]) hx hb dX2_layersTaken_1 rfl hl (by decide) rfl (fun ls hl => ?_)
  refine lv_iconst (v := 0) hx hb dX2_layersTaken_2 (by decide) ?_
  refine lv_istore (lv' := [(5, .int 0), (3, .long 0), (0, .ref a.1), (1, .int u), (2, .int v)]) hx hb dX2_layersTaken_3 hl (by decide) rfl (fun ls hl => ?_)
  have loop_5 : ∀ (nf : Nat) (k : Nat) (hnf : (b.2.1 - k) < nf) (hk : k ≤ b.2.1), ∀ (H : Heap) (locs : List Loc) (ls : Array Slot), wW G A s.heap (wBd G a b) H locs → lv_has ls 7 [(0, .ref a.1), (1, .int u), (2, .int v), (3, .long (ltK b.2.2.2.2 u v k)), (5, .int (nI k))] → W p l e ({ frames := 1, cells := 0, slots := 0, locals := 22 }) s m [.ref a.1, .int u, .int v].toArray below meth c H locs 0 0 (MQ below (va_Qi (fun (r9 : Int32) (_ : Unit) => r9 = (bitc (ltK b.2.2.2.2 u v b.2.1))) (fun _ t9 => wPost G A (wBd G a b) t9) A) [.ref a.1, .int u, .int v].toArray s 0 0 A) (F0 m 5 ls []) := by
    intro nf
    induction nf with
    | zero => intro k hnf hk; exact absurd hnf (Nat.not_lt_zero _)
    | succ nf ih_5 =>
      intro k hnf hk H locs ls hw hl
      refine lv_iload hx hb dX2_layersTaken_5 (lv_at hl 4 rfl) ?_
      refine lv_aload_n hx hb dX2_layersTaken_7 rfl (lv_at hl 0 rfl) ?_
      refine r_get (ci := 2) (v := .int (nI b.2.1)) (C := RX2) (T := TX2) (N := 5) hx hb hts wiX2_layersTaken_layersTaken_X2 hown hK hw 0 rfl rfl 1 (by decide) wmX2_layersTaken_layersTaken_0 (fun _ h9 => h9) rfl dX2_layersTaken_8 ?_
      refine lv_icmp_ge (tgt := 54) hx hb dX2_layersTaken_11 (by decide) (fun c_11 => ?_) (fun c_11 => ?_)
      · have hx_11 : b.2.1 ≤ k := ct_ge (k := k) (n := b.2.1) (by omega) (by omega) c_11
        refine lv_lload_n hx hb dX2_layersTaken_54 rfl (lv_at hl 3 rfl) ?_
        have hwc : wW G A s.heap (([] : va_W) ++ (([] : va_W) ++ (wBd G a b))) H locs := hw
        refine r_calli (res := (bitc (ltK b.2.2.2.2 u v k))) (u := ([] : va_W)) (w := ([] : va_W)) (v := wBd G a b) (va_runS (As := [.long (ltK b.2.2.2.2 u v k)]) (rest := []) ⟨hx, hb, hml, hown, hts⟩ (c_bitCount l G (ltK b.2.2.2.2 u v k) H.size) (va_cwS 1 hts gX2_layersTaken_J13_bitCount_95d88 rfl rfl rfl (by decide +kernel) ⟨Nat.le_of_ble_eq_true rfl, Nat.le_of_ble_eq_true rfl⟩) (r_preS hK hwc) rfl rfl hl.1 rfl (lv_room (Nat.le_of_ble_eq_true rfl)) dX2_layersTaken_55 ⟨Nat.le_of_ble_eq_true rfl, Nat.le_of_ble_eq_true rfl⟩) hwc hA rfl rfl (fun H locs hw => ?_)
        have hw : wW G A s.heap (wBd G a b) H locs := hw
        exact m_iret hx hb hr hlocks hK hw (Nat.le_of_ble_eq_true rfl) (Nat.le_of_ble_eq_true rfl) dX2_layersTaken_58 (show (bitc (ltK b.2.2.2.2 u v k) : Int32) = bitc (ltK b.2.2.2.2 u v b.2.1) by rw [show k = b.2.1 by omega]) rfl
      · have hc_11 : k < b.2.1 := ct_nge (k := k) (n := b.2.1) (by omega) (by omega) c_11
        refine lv_aload_n hx hb dX2_layersTaken_14 rfl (lv_at hl 0 rfl) ?_
        refine lv_iload hx hb dX2_layersTaken_15 (lv_at hl 4 rfl) ?_
        have hwc : wW G A s.heap (([] : va_W) ++ ((wBd G a b) ++ ([] : va_W))) H locs := hw
        refine r_callr (res := (a.2.2.2.2 (1 + k))) (u := ([] : va_W)) (w := wBd G a b) (v := ([] : va_W)) (va_runV (As := [.int (nI k)]) (rest := []) ⟨hx, hb, hml, hown, hts⟩ (c_pocketAt l G a b (nI k) (1 + k) (nI_add 1 k) (by first | assumption | omega | decide) H.size) (cwV 1 hts gX2_layersTaken_X2_pocketAt rfl rfl rfl (by decide +kernel) ⟨Nat.le_of_ble_eq_true rfl, Nat.le_of_ble_eq_true rfl⟩) (r_preV (ci := 2) (q0 := 0) hK hwc rfl rfl rfl) rfl rfl hl.1 rfl (lv_room (Nat.le_of_ble_eq_true rfl)) dX2_layersTaken_17 ⟨Nat.le_of_ble_eq_true rfl, Nat.le_of_ble_eq_true rfl⟩) hwc hA rfl rfl (fun H locs hw => ?_)
        have hw : wW G A s.heap (wBd G a b) H locs := hw
        refine lv_astore (lv' := [(6, .ref (a.2.2.2.2 (1 + k))), (0, .ref a.1), (1, .int u), (2, .int v), (3, .long (ltK b.2.2.2.2 u v k)), (5, .int (nI k))]) hx hb dX2_layersTaken_20 hl (by decide) rfl (fun ls hl => ?_)
        refine lv_aload hx hb dX2_layersTaken_22 (lv_at hl 0 rfl) ?_
        refine r_get (ci := 1) (v := .int ((b.2.2.2.2 (1 + k)).2.2.2.2.2.2.2.2.2)) (C := RX1) (T := TX1) (N := 10) hx hb hts wiX2_layersTaken_layersTaken_X1 hown hK hw (4 + (1 + k)) (bd_at (by omega)) rfl 9 (by decide) wmX2_layersTaken_layersTaken_1 (fun _ h9 => h9) rfl dX2_layersTaken_24 ?_
        refine lv_if_ne (tgt := 48) hx hb dX2_layersTaken_27 (by decide) (fun c_27 => ?_) (fun c_27 => ?_)
        · refine lv_iinc (v := nI (k + 1)) (lv' := [(5, .int (nI (k + 1))), (6, .ref (a.2.2.2.2 (1 + k))), (0, .ref a.1), (1, .int u), (2, .int v), (3, .long (ltK b.2.2.2.2 u v k))]) hx hb dX2_layersTaken_48 hl (k := 5) rfl (nI_add k 1) (by decide) rfl (fun ls hl => ?_)
          refine lv_goto (tgt := 5) hx hb dX2_layersTaken_51 (by decide) ?_
          exact ih_5 (k + 1) (by omega) (by first | assumption | omega | rfl) _ _ _ hw (lv_sub hl [2, 3, 4, 5, 0] (show lv_pick [(5, .int (nI (k + 1))), (6, .ref (a.2.2.2.2 (1 + k))), (0, .ref a.1), (1, .int u), (2, .int v), (3, .long (ltK b.2.2.2.2 u v k))] [2, 3, 4, 5, 0] = [(0, .ref a.1), (1, .int u), (2, .int v), (3, .long (ltK b.2.2.2.2 u v (k + 1))), (5, .int (nI (k + 1)))] by simp only [ltK, if_neg c_27]; rfl))
        · refine lv_aload hx hb dX2_layersTaken_30 (lv_at hl 0 rfl) ?_
          refine lv_iload_n hx hb dX2_layersTaken_32 rfl (lv_at hl 2 rfl) ?_
          refine lv_iload_n hx hb dX2_layersTaken_33 rfl (lv_at hl 3 rfl) ?_
          have hwc : wW G A s.heap (([] : va_W) ++ ((wBd G a b) ++ ([] : va_W))) H locs := hw
          have hrv : (wBd G a b)[(4 + (1 + k))]? = some (a.2.2.2.2 (1 + k), cBk a.2.2.2.2 (b.2.2.2.2 (1 + k))) := bd_at (by omega)
          refine r_calli (res := (bkCovers (b.2.2.2.2 (1 + k)) u v)) (u := ([] : va_W)) (w := wBd G a b) (v := ([] : va_W)) (va_runV (As := [.int u, .int v]) (rest := []) ⟨hx, hb, hml, hown, hts⟩ (c_covers l G a b (1 + k) u v (by first | assumption | omega | decide) H.size) (cwV 2 hts gX2_layersTaken_X1_covers rfl rfl rfl (by decide +kernel) ⟨Nat.le_of_ble_eq_true rfl, Nat.le_of_ble_eq_true rfl⟩) (r_preV (ci := 1) (q0 := (4 + (1 + k))) hK hwc hrv rfl rfl) rfl rfl hl.1 rfl (lv_room (Nat.le_of_ble_eq_true rfl)) dX2_layersTaken_34 ⟨Nat.le_of_ble_eq_true rfl, Nat.le_of_ble_eq_true rfl⟩) hwc hA rfl rfl (fun H locs hw => ?_)
          have hw : wW G A s.heap (wBd G a b) H locs := hw
          refine lv_if_eq (tgt := 48) hx hb dX2_layersTaken_37 (by decide) (fun c_37 => ?_) (fun c_37 => ?_)
          · refine lv_iinc (v := nI (k + 1)) (lv' := [(5, .int (nI (k + 1))), (6, .ref (a.2.2.2.2 (1 + k))), (0, .ref a.1), (1, .int u), (2, .int v), (3, .long (ltK b.2.2.2.2 u v k))]) hx hb dX2_layersTaken_48 hl (k := 5) rfl (nI_add k 1) (by decide) rfl (fun ls hl => ?_)
            refine lv_goto (tgt := 5) hx hb dX2_layersTaken_51 (by decide) ?_
            exact ih_5 (k + 1) (by omega) (by first | assumption | omega | rfl) _ _ _ hw (lv_sub hl [2, 3, 4, 5, 0] (show lv_pick [(5, .int (nI (k + 1))), (6, .ref (a.2.2.2.2 (1 + k))), (0, .ref a.1), (1, .int u), (2, .int v), (3, .long (ltK b.2.2.2.2 u v k))] [2, 3, 4, 5, 0] = [(0, .ref a.1), (1, .int u), (2, .int v), (3, .long (ltK b.2.2.2.2 u v (k + 1))), (5, .int (nI (k + 1)))] by simp only [ltK, if_pos c_27, if_pos c_37]; rfl))
          · refine lv_lload_n hx hb dX2_layersTaken_40 rfl (lv_at hl 4 rfl) ?_
            refine lv_aload hx hb dX2_layersTaken_41 (lv_at hl 0 rfl) ?_
            have hwc : wW G A s.heap (([] : va_W) ++ ((wBd G a b) ++ ([] : va_W))) H locs := hw
            have hrv : (wBd G a b)[(4 + (1 + k))]? = some (a.2.2.2.2 (1 + k), cBk a.2.2.2.2 (b.2.2.2.2 (1 + k))) := bd_at (by omega)
            refine r_calll (res := (bkLayers (b.2.2.2.2 (1 + k)))) (u := ([] : va_W)) (w := wBd G a b) (v := ([] : va_W)) (va_runV (As := []) (rest := [.long (ltK b.2.2.2.2 u v k)]) ⟨hx, hb, hml, hown, hts⟩ (c_layers l G a b (1 + k) (by first | assumption | omega | decide) H.size) (cwV 0 hts gX2_layersTaken_X1_layers rfl rfl rfl (by decide +kernel) ⟨Nat.le_of_ble_eq_true rfl, Nat.le_of_ble_eq_true rfl⟩) (r_preV (ci := 1) (q0 := (4 + (1 + k))) hK hwc hrv rfl rfl) rfl rfl hl.1 rfl (lv_room (Nat.le_of_ble_eq_true rfl)) dX2_layersTaken_43 ⟨Nat.le_of_ble_eq_true rfl, Nat.le_of_ble_eq_true rfl⟩) hwc hA rfl rfl (fun H locs hw => ?_)
            have hw : wW G A s.heap (wBd G a b) H locs := hw
            refine lv_lor hx hb dX2_layersTaken_46 ?_
            refine lv_lstore_n (lv' := [(3, .long ((ltK b.2.2.2.2 u v k) ||| (bkLayers (b.2.2.2.2 (1 + k))))), (6, .ref (a.2.2.2.2 (1 + k))), (0, .ref a.1), (1, .int u), (2, .int v), (5, .int (nI k))]) hx hb dX2_layersTaken_47 rfl hl (by decide) rfl (fun ls hl => ?_)
            refine lv_iinc (v := nI (k + 1)) (lv' := [(5, .int (nI (k + 1))), (3, .long ((ltK b.2.2.2.2 u v k) ||| (bkLayers (b.2.2.2.2 (1 + k))))), (6, .ref (a.2.2.2.2 (1 + k))), (0, .ref a.1), (1, .int u), (2, .int v)]) hx hb dX2_layersTaken_48 hl (k := 5) rfl (nI_add k 1) (by decide) rfl (fun ls hl => ?_)
            refine lv_goto (tgt := 5) hx hb dX2_layersTaken_51 (by decide) ?_
            exact ih_5 (k + 1) (by omega) (by first | assumption | omega | rfl) _ _ _ hw (lv_sub hl [3, 4, 5, 1, 0] (show lv_pick [(5, .int (nI (k + 1))), (3, .long ((ltK b.2.2.2.2 u v k) ||| (bkLayers (b.2.2.2.2 (1 + k))))), (6, .ref (a.2.2.2.2 (1 + k))), (0, .ref a.1), (1, .int u), (2, .int v)] [3, 4, 5, 1, 0] = [(0, .ref a.1), (1, .int u), (2, .int v), (3, .long (ltK b.2.2.2.2 u v (k + 1))), (5, .int (nI (k + 1)))] by simp only [ltK, if_pos c_27, if_neg c_37]; rfl))
  exact loop_5 ((b.2.1 - 0) + 1) 0 (Nat.lt_succ_self _) (by first | assumption | omega | rfl) _ _ _ hw (lv_sub hl [2, 3, 4, 1, 0] rfl)

theorem wiX2_differentDepths_depths_X1 : ∀ w ∈ wsX10, w ∈ wsX2_differentDepths := by decide +kernel
theorem wiX2_differentDepths_depths_X2 : ∀ w ∈ wsX20, w ∈ wsX2_differentDepths := by decide +kernel
theorem wmX2_differentDepths_depths_0 : Cond.fieldLink RX2 37 "PartSketch$Body" "pockets" "I" ∈ wsX2_differentDepths := by decide +kernel
theorem wmX2_differentDepths_depths_1 : Cond.fieldLink RX2 52 "PartSketch$Block" "failing" "Z" ∈ wsX2_differentDepths := by decide +kernel
theorem wmX2_differentDepths_depths_2 : Cond.fieldLink RX2 45 "PartSketch$Block" "depth" "I" ∈ wsX2_differentDepths := by decide +kernel
set_option maxHeartbeats 4000000 in
set_option maxRecDepth 100000 in
/-- Body.differentDepths -/
theorem c_depths (l : Launch) (G : gT) (a : aBd) (b : tBd) (hn : b.2.1 ≤ 8) (sz : Nat) : MI l yX2_differentDepths wsX2_differentDepths ({ frames := 1, cells := 0, slots := 0, locals := 21 }) G [.ref a.1] (wBd G a b) (wBd G a b) sz (bitc (ddK b.2.2.2.2 b.2.1)) 0 0 := by
  refine m_of (Qc := fun A => (va_Qi (fun (r9 : Int32) (_ : Unit) => r9 = (bitc (ddK b.2.2.2.2 b.2.1))) (fun _ t9 => wPost G A (wBd G a b) t9) A)) (cc := cX2_differentDepths) (maxL := 5) (ret := (some .int)) (by decide) rfl (Nat.le_of_ble_eq_true rfl) ?_
  intro p e s m A below meth c H locs ls hx hb hr hts hown hlocks hin hml hK hA hw hl
  have hl : lv_has ls 5 [(0, .ref a.1)] := hl
  refine lv_lconst (v := 0) hx hb dX2_differentDepths_0 (by decide) ?_
  refine lv_lstore_n (lv' := [(1, .long 0), (0, .ref a.1)]) hx hb dX2_differentDepths_1 rfl hl (by decide) rfl (fun ls hl => ?_)
  refine lv_iconst (v := 0) hx hb dX2_differentDepths_2 (by decide) ?_
  refine lv_istore_n (lv' := [(3, .int 0), (1, .long 0), (0, .ref a.1)]) hx hb dX2_differentDepths_3 rfl hl (by decide) rfl (fun ls hl => ?_)
  have loop_4 : ∀ (nf : Nat) (k : Nat) (hnf : (b.2.1 - k) < nf) (hk : k ≤ b.2.1), ∀ (H : Heap) (locs : List Loc) (ls : Array Slot), wW G A s.heap (wBd G a b) H locs → lv_has ls 5 [(0, .ref a.1), (1, .long (ddK b.2.2.2.2 k)), (3, .int (nI k))] → W p l e ({ frames := 1, cells := 0, slots := 0, locals := 21 }) s m [.ref a.1].toArray below meth c H locs 0 0 (MQ below (va_Qi (fun (r9 : Int32) (_ : Unit) => r9 = (bitc (ddK b.2.2.2.2 b.2.1))) (fun _ t9 => wPost G A (wBd G a b) t9) A) [.ref a.1].toArray s 0 0 A) (F0 m 4 ls []) := by
    intro nf
    induction nf with
    | zero => intro k hnf hk; exact absurd hnf (Nat.not_lt_zero _)
    | succ nf ih_4 =>
      intro k hnf hk H locs ls hw hl
      refine lv_iload_n hx hb dX2_differentDepths_4 rfl (lv_at hl 2 rfl) ?_
      refine lv_aload_n hx hb dX2_differentDepths_5 rfl (lv_at hl 0 rfl) ?_
      refine r_get (ci := 2) (v := .int (nI b.2.1)) (C := RX2) (T := TX2) (N := 5) hx hb hts wiX2_differentDepths_depths_X2 hown hK hw 0 rfl rfl 1 (by decide) wmX2_differentDepths_depths_0 (fun _ h9 => h9) rfl dX2_differentDepths_6 ?_
      refine lv_icmp_ge (tgt := 43) hx hb dX2_differentDepths_9 (by decide) (fun c_9 => ?_) (fun c_9 => ?_)
      · have hx_9 : b.2.1 ≤ k := ct_ge (k := k) (n := b.2.1) (by omega) (by omega) c_9
        refine lv_lload_n hx hb dX2_differentDepths_43 rfl (lv_at hl 1 rfl) ?_
        have hwc : wW G A s.heap (([] : va_W) ++ (([] : va_W) ++ (wBd G a b))) H locs := hw
        refine r_calli (res := (bitc (ddK b.2.2.2.2 k))) (u := ([] : va_W)) (w := ([] : va_W)) (v := wBd G a b) (va_runS (As := [.long (ddK b.2.2.2.2 k)]) (rest := []) ⟨hx, hb, hml, hown, hts⟩ (c_bitCount l G (ddK b.2.2.2.2 k) H.size) (va_cwS 1 hts gX2_differentDepths_J13_bitCount_95d88 rfl rfl rfl (by decide +kernel) ⟨Nat.le_of_ble_eq_true rfl, Nat.le_of_ble_eq_true rfl⟩) (r_preS hK hwc) rfl rfl hl.1 rfl (lv_room (Nat.le_of_ble_eq_true rfl)) dX2_differentDepths_44 ⟨Nat.le_of_ble_eq_true rfl, Nat.le_of_ble_eq_true rfl⟩) hwc hA rfl rfl (fun H locs hw => ?_)
        have hw : wW G A s.heap (wBd G a b) H locs := hw
        exact m_iret hx hb hr hlocks hK hw (Nat.le_of_ble_eq_true rfl) (Nat.le_of_ble_eq_true rfl) dX2_differentDepths_47 (show (bitc (ddK b.2.2.2.2 k) : Int32) = bitc (ddK b.2.2.2.2 b.2.1) by rw [show k = b.2.1 by omega]) rfl
      · have hc_9 : k < b.2.1 := ct_nge (k := k) (n := b.2.1) (by omega) (by omega) c_9
        refine lv_aload_n hx hb dX2_differentDepths_12 rfl (lv_at hl 0 rfl) ?_
        refine lv_iload_n hx hb dX2_differentDepths_13 rfl (lv_at hl 2 rfl) ?_
        have hwc : wW G A s.heap (([] : va_W) ++ ((wBd G a b) ++ ([] : va_W))) H locs := hw
        refine r_callr (res := (a.2.2.2.2 (1 + k))) (u := ([] : va_W)) (w := wBd G a b) (v := ([] : va_W)) (va_runV (As := [.int (nI k)]) (rest := []) ⟨hx, hb, hml, hown, hts⟩ (c_pocketAt l G a b (nI k) (1 + k) (nI_add 1 k) (by first | assumption | omega | decide) H.size) (cwV 1 hts gX2_differentDepths_X2_pocketAt rfl rfl rfl (by decide +kernel) ⟨Nat.le_of_ble_eq_true rfl, Nat.le_of_ble_eq_true rfl⟩) (r_preV (ci := 2) (q0 := 0) hK hwc rfl rfl rfl) rfl rfl hl.1 rfl (lv_room (Nat.le_of_ble_eq_true rfl)) dX2_differentDepths_14 ⟨Nat.le_of_ble_eq_true rfl, Nat.le_of_ble_eq_true rfl⟩) hwc hA rfl rfl (fun H locs hw => ?_)
        have hw : wW G A s.heap (wBd G a b) H locs := hw
        refine lv_astore (lv' := [(4, .ref (a.2.2.2.2 (1 + k))), (0, .ref a.1), (1, .long (ddK b.2.2.2.2 k)), (3, .int (nI k))]) hx hb dX2_differentDepths_17 hl (by decide) rfl (fun ls hl => ?_)
        refine lv_aload hx hb dX2_differentDepths_19 (lv_at hl 0 rfl) ?_
        refine r_get (ci := 1) (v := .int ((b.2.2.2.2 (1 + k)).2.2.2.2.2.2.2.2.2)) (C := RX1) (T := TX1) (N := 10) hx hb hts wiX2_differentDepths_depths_X1 hown hK hw (4 + (1 + k)) (bd_at (by omega)) rfl 9 (by decide) wmX2_differentDepths_depths_1 (fun _ h9 => h9) rfl dX2_differentDepths_21 ?_
        refine lv_if_ne (tgt := 37) hx hb dX2_differentDepths_24 (by decide) (fun c_24 => ?_) (fun c_24 => ?_)
        · refine lv_iinc (v := nI (k + 1)) (lv' := [(3, .int (nI (k + 1))), (4, .ref (a.2.2.2.2 (1 + k))), (0, .ref a.1), (1, .long (ddK b.2.2.2.2 k))]) hx hb dX2_differentDepths_37 hl (k := 3) rfl (nI_add k 1) (by decide) rfl (fun ls hl => ?_)
          refine lv_goto (tgt := 4) hx hb dX2_differentDepths_40 (by decide) ?_
          exact ih_4 (k + 1) (by omega) (by first | assumption | omega | rfl) _ _ _ hw (lv_sub hl [2, 3, 0] (show lv_pick [(3, .int (nI (k + 1))), (4, .ref (a.2.2.2.2 (1 + k))), (0, .ref a.1), (1, .long (ddK b.2.2.2.2 k))] [2, 3, 0] = [(0, .ref a.1), (1, .long (ddK b.2.2.2.2 (k + 1))), (3, .int (nI (k + 1)))] by simp only [ddK, if_neg c_24]; rfl))
        · refine lv_lload_n hx hb dX2_differentDepths_27 rfl (lv_at hl 2 rfl) ?_
          refine lv_lconst (v := 1) hx hb dX2_differentDepths_28 (by decide) ?_
          refine lv_aload hx hb dX2_differentDepths_29 (lv_at hl 0 rfl) ?_
          refine r_get (ci := 1) (v := .int ((b.2.2.2.2 (1 + k)).2.2.1)) (C := RX1) (T := TX1) (N := 10) hx hb hts wiX2_differentDepths_depths_X1 hown hK hw (4 + (1 + k)) (bd_at (by omega)) rfl 2 (by decide) wmX2_differentDepths_depths_2 (fun _ h9 => h9) rfl dX2_differentDepths_31 ?_
          refine lv_lshl (v := 1 <<< (((b.2.2.2.2 (1 + k)).2.2.1).toInt64 &&& 63)) hx hb dX2_differentDepths_34 rfl ?_
          refine lv_lor hx hb dX2_differentDepths_35 ?_
          refine lv_lstore_n (lv' := [(1, .long ((ddK b.2.2.2.2 k) ||| (1 <<< (((b.2.2.2.2 (1 + k)).2.2.1).toInt64 &&& 63)))), (4, .ref (a.2.2.2.2 (1 + k))), (0, .ref a.1), (3, .int (nI k))]) hx hb dX2_differentDepths_36 rfl hl (by decide) rfl (fun ls hl => ?_)
          refine lv_iinc (v := nI (k + 1)) (lv' := [(3, .int (nI (k + 1))), (1, .long ((ddK b.2.2.2.2 k) ||| (1 <<< (((b.2.2.2.2 (1 + k)).2.2.1).toInt64 &&& 63)))), (4, .ref (a.2.2.2.2 (1 + k))), (0, .ref a.1)]) hx hb dX2_differentDepths_37 hl (k := 3) rfl (nI_add k 1) (by decide) rfl (fun ls hl => ?_)
          refine lv_goto (tgt := 4) hx hb dX2_differentDepths_40 (by decide) ?_
          exact ih_4 (k + 1) (by omega) (by first | assumption | omega | rfl) _ _ _ hw (lv_sub hl [3, 1, 0] (show lv_pick [(3, .int (nI (k + 1))), (1, .long ((ddK b.2.2.2.2 k) ||| (1 <<< (((b.2.2.2.2 (1 + k)).2.2.1).toInt64 &&& 63)))), (4, .ref (a.2.2.2.2 (1 + k))), (0, .ref a.1)] [3, 1, 0] = [(0, .ref a.1), (1, .long (ddK b.2.2.2.2 (k + 1))), (3, .int (nI (k + 1)))] by simp only [ddK, if_pos c_24]; rfl))
  exact loop_4 ((b.2.1 - 0) + 1) 0 (Nat.lt_succ_self _) (by first | assumption | omega | rfl) _ _ _ hw (lv_sub hl [2, 1, 0] rfl)

theorem wiX2_takenCells_taken_X2 : ∀ w ∈ wsX20, w ∈ wsX2_takenCells := by decide +kernel
theorem wmX2_takenCells_taken_0 : Cond.fieldLink RX2 17 "PartSketch$Body" "xSides" "[I" ∈ wsX2_takenCells := by decide +kernel
theorem wmX2_takenCells_taken_1 : Cond.fieldLink RX2 21 "PartSketch$Body" "ySides" "[I" ∈ wsX2_takenCells := by decide +kernel
set_option maxHeartbeats 4000000 in
set_option maxRecDepth 100000 in
/-- Body.takenCells -/
theorem c_taken (l : Launch) (G : gT) (a : aBd) (b : tBd) (hn : b.2.1 ≤ 8) (sz : Nat) : MI l yX2_takenCells wsX2_takenCells ({ frames := 2, cells := 0, slots := 0, locals := 48 }) G [.ref a.1] (wBd G a b) (wBd G a (b.1, b.2.1, (bdGs b).2.1, (bdGs b).2.2, b.2.2.2.2)) sz (bdTaken b) 0 0 := by
  have hle : (bdGs b).1 ≤ 16 := Nat.le_trans (gsK_le _ _ _ _) (by omega)
  refine m_of (Qc := fun A => (va_Qi (fun (r9 : Int32) (_ : Unit) => r9 = (bdTaken b)) (fun _ t9 => wPost G A (wBd G a (b.1, b.2.1, (bdGs b).2.1, (bdGs b).2.2, b.2.2.2.2)) t9) A)) (cc := cX2_takenCells) (maxL := 6) (ret := (some .int)) (by decide) rfl (Nat.le_of_ble_eq_true rfl) ?_
  intro p e s m A below meth c H locs ls hx hb hr hts hown hlocks hin hml hK hA hw hl
  have hl : lv_has ls 6 [(0, .ref a.1)] := hl
  refine lv_aload_n hx hb dX2_takenCells_0 rfl (lv_at hl 0 rfl) ?_
  have hwc : wW G A s.heap (([] : va_W) ++ ((wBd G a b) ++ ([] : va_W))) H locs := hw
  refine r_calli (res := (nI (bdGs b).1)) (u := ([] : va_W)) (w := wBd G a b) (v := ([] : va_W)) (va_runV (As := []) (rest := []) ⟨hx, hb, hml, hown, hts⟩ (c_gather l G a b (by first | assumption | omega | decide) H.size) (cwV 0 hts gX2_takenCells_X2_gatherSides rfl rfl rfl (by decide +kernel) ⟨Nat.le_of_ble_eq_true rfl, Nat.le_of_ble_eq_true rfl⟩) (r_preV (ci := 2) (q0 := 0) hK hwc rfl rfl rfl) rfl rfl hl.1 rfl (lv_room (Nat.le_of_ble_eq_true rfl)) dX2_takenCells_1 ⟨Nat.le_of_ble_eq_true rfl, Nat.le_of_ble_eq_true rfl⟩) hwc hA rfl rfl (fun H locs hw => ?_)
  have hw : wW G A s.heap (wBd G a (b.1, b.2.1, (bdGs b).2.1, (bdGs b).2.2, b.2.2.2.2)) H locs := hw
  refine lv_istore_n (lv' := [(1, .int (nI (bdGs b).1)), (0, .ref a.1)]) hx hb dX2_takenCells_4 rfl hl (by decide) rfl (fun ls hl => ?_)
  refine lv_iconst (v := 0) hx hb dX2_takenCells_5 (by decide) ?_
  refine lv_istore_n (lv' := [(2, .int 0), (1, .int (nI (bdGs b).1)), (0, .ref a.1)]) hx hb dX2_takenCells_6 rfl hl (by decide) rfl (fun ls hl => ?_)
  refine lv_iconst (v := 1) hx hb dX2_takenCells_7 (by decide) ?_
  refine lv_istore_n (lv' := [(3, .int 1), (2, .int 0), (1, .int (nI (bdGs b).1)), (0, .ref a.1)]) hx hb dX2_takenCells_8 rfl hl (by decide) rfl (fun ls hl => ?_)
  have loop_9 : ∀ (nf : Nat) (i : Nat) (hnf : ((bdGs b).1 - i) < nf) (hi : i ≤ (bdGs b).1 - 1), ∀ (H : Heap) (locs : List Loc) (ls : Array Slot), wW G A s.heap (wBd G a (b.1, b.2.1, (bdGs b).2.1, (bdGs b).2.2, b.2.2.2.2)) H locs → lv_has ls 6 [(0, .ref a.1), (1, .int (nI (bdGs b).1)), (2, .int (tkAll b.2.2.2.2 b.2.1 (bdGs b).2.1 (bdGs b).2.2 (bdGs b).1 i)), (3, .int (nI (i + 1)))] → W p l e ({ frames := 2, cells := 0, slots := 0, locals := 48 }) s m [.ref a.1].toArray below meth c H locs 0 0 (MQ below (va_Qi (fun (r9 : Int32) (_ : Unit) => r9 = (bdTaken b)) (fun _ t9 => wPost G A (wBd G a (b.1, b.2.1, (bdGs b).2.1, (bdGs b).2.2, b.2.2.2.2)) t9) A) [.ref a.1].toArray s 0 0 A) (F0 m 9 ls []) := by
    intro nf
    induction nf with
    | zero => intro i hnf hi; exact absurd hnf (Nat.not_lt_zero _)
    | succ nf ih_9 =>
      intro i hnf hi H locs ls hw hl
      refine lv_iload_n hx hb dX2_takenCells_9 rfl (lv_at hl 3 rfl) ?_
      refine lv_iload_n hx hb dX2_takenCells_10 rfl (lv_at hl 1 rfl) ?_
      refine lv_icmp_ge (tgt := 102) hx hb dX2_takenCells_11 (by decide) (fun c_11 => ?_) (fun c_11 => ?_)
      · have hx_11 : (bdGs b).1 ≤ i + 1 := ct_ge (k := i + 1) (n := (bdGs b).1) (by omega) (by omega) c_11
        refine lv_iload_n hx hb dX2_takenCells_102 rfl (lv_at hl 2 rfl) ?_
        exact m_iret hx hb hr hlocks hK hw (Nat.le_of_ble_eq_true rfl) (Nat.le_of_ble_eq_true rfl) dX2_takenCells_103 (show (tkAll b.2.2.2.2 b.2.1 (bdGs b).2.1 (bdGs b).2.2 (bdGs b).1 i : Int32) = bdTaken b by unfold bdTaken; rw [show i = (bdGs b).1 - 1 by omega]) rfl
      · have hc_11 : i + 1 < (bdGs b).1 := ct_nge (k := i + 1) (n := (bdGs b).1) (by omega) (by omega) c_11
        refine lv_iconst (v := 1) hx hb dX2_takenCells_14 (by decide) ?_
        refine lv_istore (lv' := [(4, .int 1), (0, .ref a.1), (1, .int (nI (bdGs b).1)), (2, .int (tkAll b.2.2.2.2 b.2.1 (bdGs b).2.1 (bdGs b).2.2 (bdGs b).1 i)), (3, .int (nI (i + 1)))]) hx hb dX2_takenCells_15 hl (by decide) rfl (fun ls hl => ?_)
        have loop_17 : ∀ (nf : Nat) (j : Nat) (hnf : ((bdGs b).1 - j) < nf) (hj : j ≤ (bdGs b).1 - 1), ∀ (H : Heap) (locs : List Loc) (ls : Array Slot), wW G A s.heap (wBd G a (b.1, b.2.1, (bdGs b).2.1, (bdGs b).2.2, b.2.2.2.2)) H locs → lv_has ls 6 [(0, .ref a.1), (1, .int (nI (bdGs b).1)), (2, .int (tkRow b.2.2.2.2 b.2.1 (bdGs b).2.1 (bdGs b).2.2 i (tkAll b.2.2.2.2 b.2.1 (bdGs b).2.1 (bdGs b).2.2 (bdGs b).1 i) j)), (3, .int (nI (i + 1))), (4, .int (nI (j + 1)))] → W p l e ({ frames := 2, cells := 0, slots := 0, locals := 48 }) s m [.ref a.1].toArray below meth c H locs 0 0 (MQ below (va_Qi (fun (r9 : Int32) (_ : Unit) => r9 = (bdTaken b)) (fun _ t9 => wPost G A (wBd G a (b.1, b.2.1, (bdGs b).2.1, (bdGs b).2.2, b.2.2.2.2)) t9) A) [.ref a.1].toArray s 0 0 A) (F0 m 17 ls []) := by
          intro nf
          induction nf with
          | zero => intro j hnf hj; exact absurd hnf (Nat.not_lt_zero _)
          | succ nf ih_17 =>
            intro j hnf hj H locs ls hw hl
            refine lv_iload hx hb dX2_takenCells_17 (lv_at hl 4 rfl) ?_
            refine lv_iload_n hx hb dX2_takenCells_19 rfl (lv_at hl 1 rfl) ?_
            refine lv_icmp_ge (tgt := 96) hx hb dX2_takenCells_20 (by decide) (fun c_20 => ?_) (fun c_20 => ?_)
            · have hx_20 : (bdGs b).1 ≤ j + 1 := ct_ge (k := j + 1) (n := (bdGs b).1) (by omega) (by omega) c_20
              refine lv_iinc (v := nI ((i + 1) + 1)) (lv' := [(3, .int (nI ((i + 1) + 1))), (0, .ref a.1), (1, .int (nI (bdGs b).1)), (2, .int (tkRow b.2.2.2.2 b.2.1 (bdGs b).2.1 (bdGs b).2.2 i (tkAll b.2.2.2.2 b.2.1 (bdGs b).2.1 (bdGs b).2.2 (bdGs b).1 i) j)), (4, .int (nI (j + 1)))]) hx hb dX2_takenCells_96 hl (k := 3) rfl (nI_add (i + 1) 1) (by decide) rfl (fun ls hl => ?_)
              refine lv_goto (tgt := 9) hx hb dX2_takenCells_99 (by decide) ?_
              exact ih_9 (i + 1) (by omega) (by first | assumption | omega | rfl) _ _ _ hw (lv_sub hl [1, 2, 3, 0] (show lv_pick [(3, .int (nI ((i + 1) + 1))), (0, .ref a.1), (1, .int (nI (bdGs b).1)), (2, .int (tkRow b.2.2.2.2 b.2.1 (bdGs b).2.1 (bdGs b).2.2 i (tkAll b.2.2.2.2 b.2.1 (bdGs b).2.1 (bdGs b).2.2 (bdGs b).1 i) j)), (4, .int (nI (j + 1)))] [1, 2, 3, 0] = [(0, .ref a.1), (1, .int (nI (bdGs b).1)), (2, .int (tkAll b.2.2.2.2 b.2.1 (bdGs b).2.1 (bdGs b).2.2 (bdGs b).1 (i + 1))), (3, .int (nI ((i + 1) + 1)))] by rw [show j = (bdGs b).1 - 1 by omega]; rfl))
            · have hc_20 : j + 1 < (bdGs b).1 := ct_nge (k := j + 1) (n := (bdGs b).1) (by omega) (by omega) c_20
              refine lv_aload_n hx hb dX2_takenCells_23 rfl (lv_at hl 0 rfl) ?_
              refine r_get (ci := 2) (v := .ref a.2.2.1) (C := RX2) (T := TX2) (N := 5) hx hb hts wiX2_takenCells_taken_X2 hown hK hw 0 rfl rfl 3 (by decide) wmX2_takenCells_taken_0 (fun _ h9 => h9) rfl dX2_takenCells_24 ?_
              refine lv_iload_n hx hb dX2_takenCells_27 rfl (lv_at hl 3 rfl) ?_
              refine r_iald (v := ((bdGs b).2.1) (i + 1)) hx hb hK hw 2 rfl (i + 1) rfl (by omega) (by decide) rfl dX2_takenCells_28 ?_
              refine lv_aload_n hx hb dX2_takenCells_29 rfl (lv_at hl 0 rfl) ?_
              refine r_get (ci := 2) (v := .ref a.2.2.1) (C := RX2) (T := TX2) (N := 5) hx hb hts wiX2_takenCells_taken_X2 hown hK hw 0 rfl rfl 3 (by decide) wmX2_takenCells_taken_0 (fun _ h9 => h9) rfl dX2_takenCells_30 ?_
              refine lv_iload_n hx hb dX2_takenCells_33 rfl (lv_at hl 3 rfl) ?_
              refine lv_iconst (v := 1) hx hb dX2_takenCells_34 (by decide) ?_
              refine lv_isub hx hb dX2_takenCells_35 ?_
              refine r_top (y := nI i) (nI_pred i) ?_
              refine r_iald (v := ((bdGs b).2.1) i) hx hb hK hw 2 rfl i rfl (by omega) (by decide) rfl dX2_takenCells_36 ?_
              refine lv_isub hx hb dX2_takenCells_37 ?_
              refine lv_aload_n hx hb dX2_takenCells_38 rfl (lv_at hl 0 rfl) ?_
              refine r_get (ci := 2) (v := .ref a.2.2.2.1) (C := RX2) (T := TX2) (N := 5) hx hb hts wiX2_takenCells_taken_X2 hown hK hw 0 rfl rfl 4 (by decide) wmX2_takenCells_taken_1 (fun _ h9 => h9) rfl dX2_takenCells_39 ?_
              refine lv_iload hx hb dX2_takenCells_42 (lv_at hl 4 rfl) ?_
              refine r_iald (v := ((bdGs b).2.2) (j + 1)) hx hb hK hw 3 rfl (j + 1) rfl (by omega) (by decide) rfl dX2_takenCells_44 ?_
              refine lv_aload_n hx hb dX2_takenCells_45 rfl (lv_at hl 0 rfl) ?_
              refine r_get (ci := 2) (v := .ref a.2.2.2.1) (C := RX2) (T := TX2) (N := 5) hx hb hts wiX2_takenCells_taken_X2 hown hK hw 0 rfl rfl 4 (by decide) wmX2_takenCells_taken_1 (fun _ h9 => h9) rfl dX2_takenCells_46 ?_
              refine lv_iload hx hb dX2_takenCells_49 (lv_at hl 4 rfl) ?_
              refine lv_iconst (v := 1) hx hb dX2_takenCells_51 (by decide) ?_
              refine lv_isub hx hb dX2_takenCells_52 ?_
              refine r_top (y := nI j) (nI_pred j) ?_
              refine r_iald (v := ((bdGs b).2.2) j) hx hb hK hw 3 rfl j rfl (by omega) (by decide) rfl dX2_takenCells_53 ?_
              refine lv_isub hx hb dX2_takenCells_54 ?_
              refine lv_imul hx hb dX2_takenCells_55 ?_
              refine r_top (y := bdCol (bdGs b).2.1 (bdGs b).2.2 i j) rfl ?_
              refine lv_istore (lv' := [(5, .int (bdCol (bdGs b).2.1 (bdGs b).2.2 i j)), (0, .ref a.1), (1, .int (nI (bdGs b).1)), (2, .int (tkRow b.2.2.2.2 b.2.1 (bdGs b).2.1 (bdGs b).2.2 i (tkAll b.2.2.2.2 b.2.1 (bdGs b).2.1 (bdGs b).2.2 (bdGs b).1 i) j)), (3, .int (nI (i + 1))), (4, .int (nI (j + 1)))]) hx hb dX2_takenCells_56 hl (by decide) rfl (fun ls hl => ?_)
              refine lv_iload hx hb dX2_takenCells_58 (lv_at hl 0 rfl) ?_
              refine lv_if_le (tgt := 90) hx hb dX2_takenCells_60 (by decide) (fun c_60 => ?_) (fun c_60 => ?_)
              · refine lv_iinc (v := nI ((j + 1) + 1)) (lv' := [(4, .int (nI ((j + 1) + 1))), (5, .int (bdCol (bdGs b).2.1 (bdGs b).2.2 i j)), (0, .ref a.1), (1, .int (nI (bdGs b).1)), (2, .int (tkRow b.2.2.2.2 b.2.1 (bdGs b).2.1 (bdGs b).2.2 i (tkAll b.2.2.2.2 b.2.1 (bdGs b).2.1 (bdGs b).2.2 (bdGs b).1 i) j)), (3, .int (nI (i + 1)))]) hx hb dX2_takenCells_90 hl (k := 5) rfl (nI_add (j + 1) 1) (by decide) rfl (fun ls hl => ?_)
                refine lv_goto (tgt := 17) hx hb dX2_takenCells_93 (by decide) ?_
                exact ih_17 (j + 1) (by omega) (by first | assumption | omega | rfl) _ _ _ hw (lv_sub hl [2, 3, 4, 5, 0] (show lv_pick [(4, .int (nI ((j + 1) + 1))), (5, .int (bdCol (bdGs b).2.1 (bdGs b).2.2 i j)), (0, .ref a.1), (1, .int (nI (bdGs b).1)), (2, .int (tkRow b.2.2.2.2 b.2.1 (bdGs b).2.1 (bdGs b).2.2 i (tkAll b.2.2.2.2 b.2.1 (bdGs b).2.1 (bdGs b).2.2 (bdGs b).1 i) j)), (3, .int (nI (i + 1)))] [2, 3, 4, 5, 0] = [(0, .ref a.1), (1, .int (nI (bdGs b).1)), (2, .int (tkRow b.2.2.2.2 b.2.1 (bdGs b).2.1 (bdGs b).2.2 i (tkAll b.2.2.2.2 b.2.1 (bdGs b).2.1 (bdGs b).2.2 (bdGs b).1 i) (j + 1))), (3, .int (nI (i + 1))), (4, .int (nI ((j + 1) + 1)))] by simp only [tkRow, if_pos c_60]; rfl))
              · refine lv_iload_n hx hb dX2_takenCells_63 rfl (lv_at hl 3 rfl) ?_
                refine lv_iload hx hb dX2_takenCells_64 (lv_at hl 0 rfl) ?_
                refine lv_aload_n hx hb dX2_takenCells_66 rfl (lv_at hl 1 rfl) ?_
                refine lv_aload_n hx hb dX2_takenCells_67 rfl (lv_at hl 1 rfl) ?_
                refine r_get (ci := 2) (v := .ref a.2.2.1) (C := RX2) (T := TX2) (N := 5) hx hb hts wiX2_takenCells_taken_X2 hown hK hw 0 rfl rfl 3 (by decide) wmX2_takenCells_taken_0 (fun _ h9 => h9) rfl dX2_takenCells_68 ?_
                refine lv_iload_n hx hb dX2_takenCells_71 rfl (lv_at hl 4 rfl) ?_
                refine lv_iconst (v := 1) hx hb dX2_takenCells_72 (by decide) ?_
                refine lv_isub hx hb dX2_takenCells_73 ?_
                refine r_top (y := nI i) (nI_pred i) ?_
                refine r_iald (v := ((bdGs b).2.1) i) hx hb hK hw 2 rfl i rfl (by omega) (by decide) rfl dX2_takenCells_74 ?_
                refine lv_aload_n hx hb dX2_takenCells_75 rfl (lv_at hl 1 rfl) ?_
                refine r_get (ci := 2) (v := .ref a.2.2.2.1) (C := RX2) (T := TX2) (N := 5) hx hb hts wiX2_takenCells_taken_X2 hown hK hw 0 rfl rfl 4 (by decide) wmX2_takenCells_taken_1 (fun _ h9 => h9) rfl dX2_takenCells_76 ?_
                refine lv_iload hx hb dX2_takenCells_79 (lv_at hl 5 rfl) ?_
                refine lv_iconst (v := 1) hx hb dX2_takenCells_81 (by decide) ?_
                refine lv_isub hx hb dX2_takenCells_82 ?_
                refine r_top (y := nI j) (nI_pred j) ?_
                refine r_iald (v := ((bdGs b).2.2) j) hx hb hK hw 3 rfl j rfl (by omega) (by decide) rfl dX2_takenCells_83 ?_
                have hwc : wW G A s.heap (([] : va_W) ++ ((wBd G a (b.1, b.2.1, (bdGs b).2.1, (bdGs b).2.2, b.2.2.2.2)) ++ ([] : va_W))) H locs := hw
                refine r_calli (res := (bitc (ltK (b.1, b.2.1, (bdGs b).2.1, (bdGs b).2.2, b.2.2.2.2).2.2.2.2 (((bdGs b).2.1) i) (((bdGs b).2.2) j) (b.1, b.2.1, (bdGs b).2.1, (bdGs b).2.2, b.2.2.2.2).2.1))) (u := ([] : va_W)) (w := wBd G a (b.1, b.2.1, (bdGs b).2.1, (bdGs b).2.2, b.2.2.2.2)) (v := ([] : va_W)) (va_runV (As := [.int (((bdGs b).2.1) i), .int (((bdGs b).2.2) j)]) (rest := [.int (bdCol (bdGs b).2.1 (bdGs b).2.2 i j), .int (tkRow b.2.2.2.2 b.2.1 (bdGs b).2.1 (bdGs b).2.2 i (tkAll b.2.2.2.2 b.2.1 (bdGs b).2.1 (bdGs b).2.2 (bdGs b).1 i) j)]) ⟨hx, hb, hml, hown, hts⟩ (c_layersTaken l G a (b.1, b.2.1, (bdGs b).2.1, (bdGs b).2.2, b.2.2.2.2) (((bdGs b).2.1) i) (((bdGs b).2.2) j) (by first | assumption | omega | decide) H.size) (cwV 2 hts gX2_takenCells_X2_layersTaken rfl rfl rfl (by decide +kernel) ⟨Nat.le_of_ble_eq_true rfl, Nat.le_of_ble_eq_true rfl⟩) (r_preV (ci := 2) (q0 := 0) hK hwc rfl rfl rfl) rfl rfl hl.1 rfl (lv_room (Nat.le_of_ble_eq_true rfl)) dX2_takenCells_84 ⟨Nat.le_of_ble_eq_true rfl, Nat.le_of_ble_eq_true rfl⟩) hwc hA rfl rfl (fun H locs hw => ?_)
                have hw : wW G A s.heap (wBd G a (b.1, b.2.1, (bdGs b).2.1, (bdGs b).2.2, b.2.2.2.2)) H locs := hw
                refine lv_imul hx hb dX2_takenCells_87 ?_
                refine lv_iadd hx hb dX2_takenCells_88 ?_
                refine lv_istore_n (lv' := [(2, .int ((tkRow b.2.2.2.2 b.2.1 (bdGs b).2.1 (bdGs b).2.2 i (tkAll b.2.2.2.2 b.2.1 (bdGs b).2.1 (bdGs b).2.2 (bdGs b).1 i) j) + ((bdCol (bdGs b).2.1 (bdGs b).2.2 i j) * (bitc (ltK (b.1, b.2.1, (bdGs b).2.1, (bdGs b).2.2, b.2.2.2.2).2.2.2.2 (((bdGs b).2.1) i) (((bdGs b).2.2) j) (b.1, b.2.1, (bdGs b).2.1, (bdGs b).2.2, b.2.2.2.2).2.1))))), (5, .int (bdCol (bdGs b).2.1 (bdGs b).2.2 i j)), (0, .ref a.1), (1, .int (nI (bdGs b).1)), (3, .int (nI (i + 1))), (4, .int (nI (j + 1)))]) hx hb dX2_takenCells_89 rfl hl (by decide) rfl (fun ls hl => ?_)
                refine lv_iinc (v := nI ((j + 1) + 1)) (lv' := [(4, .int (nI ((j + 1) + 1))), (2, .int ((tkRow b.2.2.2.2 b.2.1 (bdGs b).2.1 (bdGs b).2.2 i (tkAll b.2.2.2.2 b.2.1 (bdGs b).2.1 (bdGs b).2.2 (bdGs b).1 i) j) + ((bdCol (bdGs b).2.1 (bdGs b).2.2 i j) * (bitc (ltK (b.1, b.2.1, (bdGs b).2.1, (bdGs b).2.2, b.2.2.2.2).2.2.2.2 (((bdGs b).2.1) i) (((bdGs b).2.2) j) (b.1, b.2.1, (bdGs b).2.1, (bdGs b).2.2, b.2.2.2.2).2.1))))), (5, .int (bdCol (bdGs b).2.1 (bdGs b).2.2 i j)), (0, .ref a.1), (1, .int (nI (bdGs b).1)), (3, .int (nI (i + 1)))]) hx hb dX2_takenCells_90 hl (k := 5) rfl (nI_add (j + 1) 1) (by decide) rfl (fun ls hl => ?_)
                refine lv_goto (tgt := 17) hx hb dX2_takenCells_93 (by decide) ?_
                exact ih_17 (j + 1) (by omega) (by first | assumption | omega | rfl) _ _ _ hw (lv_sub hl [3, 4, 1, 5, 0] (show lv_pick [(4, .int (nI ((j + 1) + 1))), (2, .int ((tkRow b.2.2.2.2 b.2.1 (bdGs b).2.1 (bdGs b).2.2 i (tkAll b.2.2.2.2 b.2.1 (bdGs b).2.1 (bdGs b).2.2 (bdGs b).1 i) j) + ((bdCol (bdGs b).2.1 (bdGs b).2.2 i j) * (bitc (ltK (b.1, b.2.1, (bdGs b).2.1, (bdGs b).2.2, b.2.2.2.2).2.2.2.2 (((bdGs b).2.1) i) (((bdGs b).2.2) j) (b.1, b.2.1, (bdGs b).2.1, (bdGs b).2.2, b.2.2.2.2).2.1))))), (5, .int (bdCol (bdGs b).2.1 (bdGs b).2.2 i j)), (0, .ref a.1), (1, .int (nI (bdGs b).1)), (3, .int (nI (i + 1)))] [3, 4, 1, 5, 0] = [(0, .ref a.1), (1, .int (nI (bdGs b).1)), (2, .int (tkRow b.2.2.2.2 b.2.1 (bdGs b).2.1 (bdGs b).2.2 i (tkAll b.2.2.2.2 b.2.1 (bdGs b).2.1 (bdGs b).2.2 (bdGs b).1 i) (j + 1))), (3, .int (nI (i + 1))), (4, .int (nI ((j + 1) + 1)))] by simp only [tkRow, if_neg c_60]; rfl))
        exact loop_17 (((bdGs b).1 - 0) + 1) 0 (Nat.lt_succ_self _) (by first | assumption | omega | rfl) _ _ _ hw (lv_sub hl [1, 2, 3, 4, 0] rfl)
  exact loop_9 (((bdGs b).1 - 0) + 1) 0 (Nat.lt_succ_self _) (by first | assumption | omega | rfl) _ _ _ hw (lv_sub hl [3, 2, 1, 0] rfl)
end
