/-! calls of makers that ask for the nest's words; the sketch's parts in their order -/
section C5ROWS
variable {s : State} {A : Nat → Prop} {H0 H : Heap} {locs : List Loc} {G : gT}
theorem n_preS {As : List Value} {u w v : va_W} (hK : wK G s) (hM : xM s) (hw : wW G A H0 (u ++ (w ++ v)) H locs) : PreS s H (va_Pc As (wPreN G w H.size)) As :=
  ⟨wPreN.blind, fun U hU hW => ⟨rfl, ⟨by rw [hU], by rw [hU]; exact (w_cut hw).1, wK.moved hW.alike hK, (w_cut hw).2⟩, xM.warm hW hM⟩⟩
theorem wW.sk {a x y r b : va_W} (h : wW G A H0 (a ++ (x ++ (y ++ (r ++ b)))) H locs) : wW G A H0 (r ++ (a ++ (x ++ (y ++ b)))) H locs := by
  have h1 : wW G A H0 ((a ++ (x ++ y)) ++ (r ++ b)) H locs := wW.eq (by simp only [List.append_assoc]) h
  exact wW.eq (by simp only [List.append_assoc]) (wW.swap h1)
end C5ROWS
