/-- a builder at b, its bytes at p: cap bytes f, cnt of them in use -/
def jT (M : xM) (b p cap cnt : Nat) (f : Nat → Int32) : Prop := (∃ ml : Int32, (ml = 0 ∨ ml = 1) ∧ M b = some (.inl (1, [.ref p, .int 0, .int ml, .int (nI cnt)]))) ∧ M p = some (.inr (1, cap, fun k => .int (f k))) ∧ (cap = 16 ∨ cap = 34) ∧ cnt ≤ cap ∧ ∀ k, k < cap → rCh (f k)
theorem jTA {M : xM} {b p cap cnt : Nat} {f : Nat → Int32} (h : jT M b p cap cnt f) : ∀ P, xarr M p P = P 1 cap (fun k => .int (f k)) := fun P => by simp [xarr, h.2.1]
theorem jOb {M : xM} {b p : Nat} {c ml n : Value} (h : M b = some (.inl (1, [.ref p, c, ml, n]))) : ∀ P, xobj M b 1 P = P [.ref p, c, ml, n] := fun P => by simp [xobj, h]
set_option maxRecDepth 100000 in
set_option maxHeartbeats 4000000 in
theorem jc132 {E : xE} {M : xM} {b p cap cnt nx : Nat} {f : Nat → Int32} {Q : Option Value → xM → Nat → Prop} (h : jT M b p cap cnt f) (hq : Q (some (.int (nI cnt))) M nx) : XC E 132 [.ref b] M nx Q := by
  obtain ⟨⟨ml, _, hb⟩, _⟩ := h
  refine XC.run 60 [] ?_
  simp only [n132, t132, ↓xh, ↓xst, ↓xrunE, ↓rG, rL, rSt, updA, List.elem_nil, List.elem_cons, Nat.reduceBEq, Bool.false_eq_true, if_false, if_true, true_and, and_true, true_or, or_true, not_false_eq_true, Nat.reduceAdd, Nat.reduceSub, Nat.reduceLeDiff, Nat.reduceEqDiff, Nat.reduceLT, ↓reduceIte, List.length_cons, List.length_nil, List.set_cons_zero, List.set_cons_succ, Nat.le_refl, Nat.zero_le, Nat.zero_sub, Nat.sub_zero, List.nil_append, List.cons_append, Option.toList_some, Option.toList_none, eq_self, ↓jOb hb]
  exact hq
set_option maxRecDepth 100000 in
set_option maxHeartbeats 4000000 in
theorem jc158 {E : xE} {M : xM} {b p cap cnt nx : Nat} {f : Nat → Int32} {Q : Option Value → xM → Nat → Prop} (h : jT M b p cap cnt f) (hq : Q (some (.int (nI cnt))) M nx) : XC E 158 [.ref b] M nx Q := by
  obtain ⟨⟨ml, _, hb⟩, _⟩ := id h
  refine XC.run 60 [] ?_
  simp only [n158, n132, t158, ↓xh, ↓xst, ↓xrunE, ↓rG, rL, rSt, updA, List.elem_nil, List.elem_cons, Nat.reduceBEq, Bool.false_eq_true, if_false, if_true, true_and, and_true, true_or, or_true, not_false_eq_true, Nat.reduceAdd, Nat.reduceSub, Nat.reduceLeDiff, Nat.reduceEqDiff, Nat.reduceLT, ↓reduceIte, List.length_cons, List.length_nil, List.set_cons_zero, List.set_cons_succ, Nat.le_refl, Nat.zero_le, Nat.zero_sub, Nat.sub_zero, List.nil_append, List.cons_append, Option.toList_some, Option.toList_none, eq_self, ↓jOb hb]
  refine jc132 h ?_
  refine XZ.runH 60 [] ?_
  simp only [n158, t158, ↓xh, ↓xst, ↓xrunE, ↓rG, rL, rSt, updA, List.elem_nil, List.elem_cons, Nat.reduceBEq, Bool.false_eq_true, if_false, if_true, true_and, and_true, true_or, or_true, not_false_eq_true, Nat.reduceAdd, Nat.reduceSub, Nat.reduceLeDiff, Nat.reduceEqDiff, Nat.reduceLT, ↓reduceIte, List.length_cons, List.length_nil, List.set_cons_zero, List.set_cons_succ, Nat.le_refl, Nat.zero_le, Nat.zero_sub, Nat.sub_zero, List.nil_append, List.cons_append, Option.toList_some, Option.toList_none, eq_self]
  exact hq
set_option maxRecDepth 100000 in
set_option maxHeartbeats 4000000 in
theorem jc135 {E : xE} {M : xM} {b p cap cnt nx : Nat} {f : Nat → Int32} {Q : Option Value → xM → Nat → Prop} (h : jT M b p cap cnt f) (hq : Q (some (.int 1)) M nx) : XC E 135 [.ref b] M nx Q := by
  obtain ⟨⟨ml, _, hb⟩, _⟩ := h
  refine XC.run 60 [] ?_
  simp only [n135, t135, ↓xh, ↓xst, ↓xrunE, ↓rG, rL, rSt, updA, List.elem_nil, List.elem_cons, Nat.reduceBEq, Bool.false_eq_true, if_false, if_true, true_and, and_true, true_or, or_true, not_false_eq_true, Nat.reduceAdd, Nat.reduceSub, Nat.reduceLeDiff, Nat.reduceEqDiff, Nat.reduceLT, ↓reduceIte, List.length_cons, List.length_nil, List.set_cons_zero, List.set_cons_succ, Nat.le_refl, Nat.zero_le, Nat.zero_sub, Nat.sub_zero, List.nil_append, List.cons_append, Option.toList_some, Option.toList_none, eq_self, ↓jOb hb, show ¬ (1 : Int32) = 0 by decide]
  exact hq
set_option maxRecDepth 100000 in
set_option maxHeartbeats 4000000 in
theorem jc138 {E : xE} {M : xM} {b p cap cnt nx : Nat} {f : Nat → Int32} {Q : Option Value → xM → Nat → Prop} (h : jT M b p cap cnt f) (hq : Q (some (.ref p)) M nx) : XC E 138 [.ref b] M nx Q := by
  obtain ⟨⟨ml, _, hb⟩, _⟩ := h
  refine XC.run 60 [] ?_
  simp only [n138, t138, ↓xh, ↓xst, ↓xrunE, ↓rG, rL, rSt, updA, List.elem_nil, List.elem_cons, Nat.reduceBEq, Bool.false_eq_true, if_false, if_true, true_and, and_true, true_or, or_true, not_false_eq_true, Nat.reduceAdd, Nat.reduceSub, Nat.reduceLeDiff, Nat.reduceEqDiff, Nat.reduceLT, ↓reduceIte, List.length_cons, List.length_nil, List.set_cons_zero, List.set_cons_succ, Nat.le_refl, Nat.zero_le, Nat.zero_sub, Nat.sub_zero, List.nil_append, List.cons_append, Option.toList_some, Option.toList_none, eq_self, ↓jOb hb]
  exact hq
set_option maxRecDepth 100000 in
set_option maxHeartbeats 4000000 in
theorem jc173 {E : xE} {M : xM} {nx : Nat} {Q : Option Value → xM → Nat → Prop} (hq : Q (some (.int 34)) M nx) : XC E 173 [.int 16, .int 1, .int 18] M nx Q := by
  refine XC.run 60 [] ?_
  simp only [n173, t173, ↓xh, ↓xst, ↓xrunE, ↓rG, rL, rSt, updA, List.elem_nil, List.elem_cons, Nat.reduceBEq, Bool.false_eq_true, if_false, if_true, true_and, and_true, true_or, or_true, not_false_eq_true, Nat.reduceAdd, Nat.reduceSub, Nat.reduceLeDiff, Nat.reduceEqDiff, Nat.reduceLT, ↓reduceIte, List.length_cons, List.length_nil, List.set_cons_zero, List.set_cons_succ, Nat.le_refl, Nat.zero_le, Nat.zero_sub, Nat.sub_zero, List.nil_append, List.cons_append, Option.toList_some, Option.toList_none, eq_self, show (1 : Int32) < 18 by decide, show (16 : Int32) + 18 = 34 by decide, show ¬ (34 : Int32) ≤ 0 by decide, show (0 : Int32) < 34 by decide, show (34 : Int32) ≤ 2147483639 by decide, show ¬ (2147483639 : Int32) < 34 by decide]
  exact hq
set_option maxRecDepth 100000 in
set_option maxHeartbeats 4000000 in
theorem jc137 {E : xE} {M : xM} {b p cnt nx : Nat} {f : Nat → Int32} {Q : Option Value → xM → Nat → Prop} (h : jT M b p 16 cnt f) (hq : Q (some (.int 34)) M nx) : XC E 137 [.ref b, .int 17] M nx Q := by
  obtain ⟨⟨ml, _, hb⟩, _⟩ := id h
  refine XC.run 60 [] ?_
  simp only [n137, n173, t137, ↓xh, ↓xst, ↓xrunE, ↓rG, rL, rSt, updA, List.elem_nil, List.elem_cons, Nat.reduceBEq, Bool.false_eq_true, if_false, if_true, true_and, and_true, true_or, or_true, not_false_eq_true, Nat.reduceAdd, Nat.reduceSub, Nat.reduceLeDiff, Nat.reduceEqDiff, Nat.reduceLT, ↓reduceIte, List.length_cons, List.length_nil, List.set_cons_zero, List.set_cons_succ, Nat.le_refl, Nat.zero_le, Nat.zero_sub, Nat.sub_zero, List.nil_append, List.cons_append, Option.toList_some, Option.toList_none, eq_self, ↓jOb hb, ↓jTA h, show Int32.ofNat 16 = 16 by decide, show (17 : Int32) <<< ((0 : Int32) &&& 31) = 17 by decide, show (17 : Int32) - 16 = 1 by decide, show (2 : Int32) <<< ((0 : Int32) &&& 31) = 2 by decide, show (16 : Int32) + 2 = 18 by decide]
  refine jc173 ?_
  refine XZ.runH 60 [] ?_
  simp only [n137, t137, ↓xh, ↓xst, ↓xrunE, ↓rG, rL, rSt, updA, List.elem_nil, List.elem_cons, Nat.reduceBEq, Bool.false_eq_true, if_false, if_true, true_and, and_true, true_or, or_true, not_false_eq_true, Nat.reduceAdd, Nat.reduceSub, Nat.reduceLeDiff, Nat.reduceEqDiff, Nat.reduceLT, ↓reduceIte, List.length_cons, List.length_nil, List.set_cons_zero, List.set_cons_succ, Nat.le_refl, Nat.zero_le, Nat.zero_sub, Nat.sub_zero, List.nil_append, List.cons_append, Option.toList_some, Option.toList_none, eq_self, ↓jOb hb, shr0, show ¬ (34 : Int32) = -2147483648 by decide, show ¬ (34 : Int32) = 2147483647 by decide]
  exact hq
