/-! the law from its beginning -/
theorem rFk_x (m : Nat) : xdef 12 = rFk m 0 (fun _ => 0) := by
  have : xdef 12 = [.int 0, .int 0, .int 0, .null, .int 0, .null, .null, .int 0, .null, .int 0, .null, .null, .null, .null, .null, .null, .null, .null, .null, .null, .null, .int 0, .int 0, .null, .null, .null, .null, .null, .null, .null, .null, .null, .null, .int 0, .int 0, .null, .null, .null, .null, .null, .null, .null, .null, .null, .null, .null, .null, .int 0, .int 0] := by decide +kernel
  rw [this]
  rfl
section LW0
variable {E : xE} {b L : Nat} {xs : Nat → Int32} {Q : Option Value → xM → Nat → Prop}
set_option maxRecDepth 100000 in
set_option maxHeartbeats 4000000 in
theorem lc0 {c : Nat} {M : xM} (hL : L ≤ 2563) (hc : xb E ≤ c) (he : nX E M) (hs : M b = some (.inr (0, L, fun k => .int (xs k))) ∧ b < xb E) (hq : ∀ M nx, Q (some (.int 1)) M nx) : XC E 0 [.ref b] M c Q := by
  refine XC.run 60 [3] ?_
  simp only [n0, t0, ↓xh, ↓xst, ↓xrunE, ↓rG, rL, rSt, updA, List.elem_nil, List.elem_cons, Nat.reduceBEq, Bool.false_eq_true, if_false, if_true, true_and, and_true, true_or, or_true, not_false_eq_true, Nat.reduceAdd, Nat.reduceSub, Nat.reduceLeDiff, Nat.reduceEqDiff, Nat.reduceLT, ↓reduceIte, List.length_cons, List.length_nil, List.set_cons_zero, List.set_cons_succ, Nat.le_refl, Nat.zero_le, Nat.zero_sub, Nat.sub_zero, List.nil_append, List.cons_append, Option.toList_some, Option.toList_none, eq_self, cx0]
  refine XZ.abs2 (P := fun M' => jN M M' c (.inl (0, [.int 0, .int 0, .int 0, .null, .null, .null, .null, .int 0, .null, .int 0, .null, .int 0, .null, .null, .int 0]))) (jN_put M c _) (fun M1 j1 => ?_)
  have s1 : M1 b = some (.inr (0, L, fun k => .int (xs k))) := by rw [j1.2 b (by omega)]; exact hs.1
  refine XZ.runH 60 [26] ?_
  simp only [n0, n1, t0, ↓xh, ↓xst, ↓xrunE, ↓rG, rL, rSt, updA, List.elem_nil, List.elem_cons, Nat.reduceBEq, Bool.false_eq_true, if_false, if_true, true_and, and_true, true_or, or_true, not_false_eq_true, Nat.reduceAdd, Nat.reduceSub, Nat.reduceLeDiff, Nat.reduceEqDiff, Nat.reduceLT, ↓reduceIte, List.length_cons, List.length_nil, List.set_cons_zero, List.set_cons_succ, Nat.le_refl, Nat.zero_le, Nat.zero_sub, Nat.sub_zero, List.nil_append, List.cons_append, Option.toList_some, Option.toList_none, eq_self]
  refine lc1 (i := 0) s1 hL (by omega) ?_
  refine XZ.runH 60 [26] ?_
  simp only [n0, n1, t0, ↓xh, ↓xst, ↓xrunE, ↓rG, rL, rSt, updA, List.elem_nil, List.elem_cons, Nat.reduceBEq, Bool.false_eq_true, if_false, if_true, true_and, and_true, true_or, or_true, not_false_eq_true, Nat.reduceAdd, Nat.reduceSub, Nat.reduceLeDiff, Nat.reduceEqDiff, Nat.reduceLT, ↓reduceIte, List.length_cons, List.length_nil, List.set_cons_zero, List.set_cons_succ, Nat.le_refl, Nat.zero_le, Nat.zero_sub, Nat.sub_zero, List.nil_append, List.cons_append, Option.toList_some, Option.toList_none, eq_self]
  refine lc1 (i := 1) s1 hL (by omega) ?_
  refine XZ.runH 60 [26] ?_
  simp only [n0, n1, t0, ↓xh, ↓xst, ↓xrunE, ↓rG, rL, rSt, updA, List.elem_nil, List.elem_cons, Nat.reduceBEq, Bool.false_eq_true, if_false, if_true, true_and, and_true, true_or, or_true, not_false_eq_true, Nat.reduceAdd, Nat.reduceSub, Nat.reduceLeDiff, Nat.reduceEqDiff, Nat.reduceLT, ↓reduceIte, List.length_cons, List.length_nil, List.set_cons_zero, List.set_cons_succ, Nat.le_refl, Nat.zero_le, Nat.zero_sub, Nat.sub_zero, List.nil_append, List.cons_append, Option.toList_some, Option.toList_none, eq_self]
  refine lc1 (i := 2) s1 hL (by omega) ?_
  refine XZ.runH 60 [26] ?_
  simp only [n0, n2, t0, ↓xh, ↓xst, ↓xrunE, ↓rG, rL, rSt, updA, List.elem_nil, List.elem_cons, Nat.reduceBEq, Bool.false_eq_true, if_false, if_true, true_and, and_true, true_or, or_true, not_false_eq_true, Nat.reduceAdd, Nat.reduceSub, Nat.reduceLeDiff, Nat.reduceEqDiff, Nat.reduceLT, ↓reduceIte, List.length_cons, List.length_nil, List.set_cons_zero, List.set_cons_succ, Nat.le_refl, Nat.zero_le, Nat.zero_sub, Nat.sub_zero, List.nil_append, List.cons_append, Option.toList_some, Option.toList_none, eq_self]
  refine mc2 hc j1.1 (fun M2 ml hml k2 => ?_)
  obtain ⟨w2, cc2⟩ := cW0 hc hml k2
  have s2 : ∀ q, q < c → M2 q = M q := fun q hq => (k2.2.2 q (by omega)).trans (j1.2 q (by omega))
  refine XZ.runH 60 [26] ?_
  simp only [n0, t0, ↓xh, ↓xst, ↓xrunE, ↓rG, rL, rSt, updA, List.elem_nil, List.elem_cons, Nat.reduceBEq, Bool.false_eq_true, if_false, if_true, true_and, and_true, true_or, or_true, not_false_eq_true, Nat.reduceAdd, Nat.reduceSub, Nat.reduceLeDiff, Nat.reduceEqDiff, Nat.reduceLT, ↓reduceIte, List.length_cons, List.length_nil, List.set_cons_zero, List.set_cons_succ, Nat.le_refl, Nat.zero_le, Nat.zero_sub, Nat.sub_zero, List.nil_append, List.cons_append, Option.toList_some, Option.toList_none, eq_self]
  refine XZ.abs2 (P := fun M' => jN M2 M' (c + 12) (.inl (12, xdef 12))) (jN_put M2 _ _) (fun M3 j3 => ?_)
  have s3 : M3 b = some (.inr (0, L, fun k => .int (xs k))) := by rw [j3.2 b (by omega), s2 b (by omega)]; exact hs.1
  refine XZ.runH 60 [48] ?_
  simp only [n0, n1, t0, ↓xh, ↓xst, ↓xrunE, ↓rG, rL, rSt, updA, List.elem_nil, List.elem_cons, Nat.reduceBEq, Bool.false_eq_true, if_false, if_true, true_and, and_true, true_or, or_true, not_false_eq_true, Nat.reduceAdd, Nat.reduceSub, Nat.reduceLeDiff, Nat.reduceEqDiff, Nat.reduceLT, ↓reduceIte, List.length_cons, List.length_nil, List.set_cons_zero, List.set_cons_succ, Nat.le_refl, Nat.zero_le, Nat.zero_sub, Nat.sub_zero, List.nil_append, List.cons_append, Option.toList_some, Option.toList_none, eq_self]
  refine lc1 (i := 0) s3 hL (by omega) ?_
  refine XZ.runH 60 [48] ?_
  simp only [n0, n1, t0, ↓xh, ↓xst, ↓xrunE, ↓rG, rL, rSt, updA, List.elem_nil, List.elem_cons, Nat.reduceBEq, Bool.false_eq_true, if_false, if_true, true_and, and_true, true_or, or_true, not_false_eq_true, Nat.reduceAdd, Nat.reduceSub, Nat.reduceLeDiff, Nat.reduceEqDiff, Nat.reduceLT, ↓reduceIte, List.length_cons, List.length_nil, List.set_cons_zero, List.set_cons_succ, Nat.le_refl, Nat.zero_le, Nat.zero_sub, Nat.sub_zero, List.nil_append, List.cons_append, Option.toList_some, Option.toList_none, eq_self]
  refine lc1 (i := 1) s3 hL (by omega) ?_
  refine XZ.runH 60 [48] ?_
  simp only [n0, n1, t0, ↓xh, ↓xst, ↓xrunE, ↓rG, rL, rSt, updA, List.elem_nil, List.elem_cons, Nat.reduceBEq, Bool.false_eq_true, if_false, if_true, true_and, and_true, true_or, or_true, not_false_eq_true, Nat.reduceAdd, Nat.reduceSub, Nat.reduceLeDiff, Nat.reduceEqDiff, Nat.reduceLT, ↓reduceIte, List.length_cons, List.length_nil, List.set_cons_zero, List.set_cons_succ, Nat.le_refl, Nat.zero_le, Nat.zero_sub, Nat.sub_zero, List.nil_append, List.cons_append, Option.toList_some, Option.toList_none, eq_self]
  refine lc1 (i := 2) s3 hL (by omega) ?_
  refine XZ.runH 60 [48] ?_
  simp only [n0, n79, t0, ↓xh, ↓xst, ↓xrunE, ↓rG, rL, rSt, updA, List.elem_nil, List.elem_cons, Nat.reduceBEq, Bool.false_eq_true, if_false, if_true, true_and, and_true, true_or, or_true, not_false_eq_true, Nat.reduceAdd, Nat.reduceSub, Nat.reduceLeDiff, Nat.reduceEqDiff, Nat.reduceLT, ↓reduceIte, List.length_cons, List.length_nil, List.set_cons_zero, List.set_cons_succ, Nat.le_refl, Nat.zero_le, Nat.zero_sub, Nat.sub_zero, List.nil_append, List.cons_append, Option.toList_some, Option.toList_none, eq_self]
  refine rc79 (m := c + 12) (M0 := M3) (by omega) ⟨by rw [j3.1, rFk_x (c + 12)], fun j h1 h2 => by omega, fun _ _ => rfl⟩ (fun M4 r4 => ?_)
  have s4 : ∀ q, q < c + 12 → M4 q = M2 q := fun q hq => (r4.2 q (by omega)).trans (j3.2 q (by omega))
  refine XZ.runH 60 [48] ?_
  simp only [n0, t0, ↓xh, ↓xst, ↓xrunE, ↓rG, rL, rSt, updA, List.elem_nil, List.elem_cons, Nat.reduceBEq, Bool.false_eq_true, if_false, if_true, true_and, and_true, true_or, or_true, not_false_eq_true, Nat.reduceAdd, Nat.reduceSub, Nat.reduceLeDiff, Nat.reduceEqDiff, Nat.reduceLT, ↓reduceIte, List.length_cons, List.length_nil, List.set_cons_zero, List.set_cons_succ, Nat.le_refl, Nat.zero_le, Nat.zero_sub, Nat.sub_zero, List.nil_append, List.cons_append, Option.toList_some, Option.toList_none, eq_self]
  have w4 := w2.jg (nx' := c + 12 + 38) (M' := M4) ⟨by omega, s4⟩
  refine ml0 (m := c + 12) (c := c) hL hq 512 3 M4 (c + 12 + 38) _ 0 _ _ (by omega) (by omega) (by omega) (by omega) (by omega) ⟨A0 c, _, rfl, w4, r4.1, ⟨by omega, by omega, fun q h1 h2 z => by have := cc2 q z; omega⟩, he.mv (fun q hq => by rw [s4 q (by omega), s2 q (by omega)]), ⟨by rw [s4 b (by omega), s2 b (by omega)]; exact hs.1, hs.2⟩, 0, by omega, rInit_1 (by decide)⟩
end LW0
