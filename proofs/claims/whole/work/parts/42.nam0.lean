/-- the same letters: l are left, from k on -/
def nSame (f g : Nat → Int32) (i j : Nat) : Nat → Nat → Bool
  | 0, _ => true
  | l + 1, k => if f (i + k) = g (j + k) then nSame f g i j l (k + 1) else false
set_option maxRecDepth 100000 in
set_option maxHeartbeats 4000000 in
theorem nl78 {E : xE} {M : xM} {a p n b q n' i j c nx : Nat} {f g : Nat → Int32} {Q : Option Value → xM → Nat → Prop} (h : jS M a p n f) (h' : jS M b q n' g) (hi : i + c ≤ n) (hj : j + c ≤ n') : ∀ l k, k + l = c → Q (some (.int (if nSame f g i j l k then 1 else 0))) M nx →
    XZ E 78 (xZ E 78 Q) 3 [some (.ref a), some (.int (nI i)), some (.ref b), some (.int (nI j)), some (.int (nI c)), some (.int (nI k))] [] M nx 0 0 := by
  have hn := h.2.2.1
  intro l
  induction l with
  | zero =>
    intro k hk hq
    obtain rfl : k = c := by omega
    refine XZ.runH 60 [3] ?_
    simp only [n78, t78, ↓xh, ↓xst, ↓xrunE, ↓rG, rL, rSt, updA, List.elem_nil, List.elem_cons, Nat.reduceBEq, Bool.false_eq_true, if_false, if_true, true_and, and_true, true_or, or_true, not_false_eq_true, Nat.reduceAdd, Nat.reduceSub, Nat.reduceLeDiff, Nat.reduceEqDiff, Nat.reduceLT, ↓reduceIte, List.length_cons, List.length_nil, List.set_cons_zero, List.set_cons_succ, Nat.le_refl, Nat.zero_le, Nat.zero_sub, Nat.sub_zero, List.nil_append, List.cons_append, Option.toList_some, Option.toList_none, eq_self, nI_le (Nat.le_refl k) (show k < 2 ^ 31 by omega)]
    exact hq
  | succ l ih =>
    intro k hk hq
    rw [nSame] at hq
    refine XZ.runH 60 [3] ?_
    simp only [n78, n149, t78, ↓xh, ↓xst, ↓xrunE, ↓rG, rL, rSt, updA, List.elem_nil, List.elem_cons, Nat.reduceBEq, Bool.false_eq_true, if_false, if_true, true_and, and_true, true_or, or_true, not_false_eq_true, Nat.reduceAdd, Nat.reduceSub, Nat.reduceLeDiff, Nat.reduceEqDiff, Nat.reduceLT, ↓reduceIte, List.length_cons, List.length_nil, List.set_cons_zero, List.set_cons_succ, Nat.le_refl, Nat.zero_le, Nat.zero_sub, Nat.sub_zero, List.nil_append, List.cons_append, Option.toList_some, Option.toList_none, eq_self, nI_ge (show k < c by omega) (show c < 2 ^ 31 by omega), nI_add, ↓jO h]
    refine jc149 h (by omega) ?_
    refine XZ.runH 60 [3] ?_
    simp only [n78, n149, t78, ↓xh, ↓xst, ↓xrunE, ↓rG, rL, rSt, updA, List.elem_nil, List.elem_cons, Nat.reduceBEq, Bool.false_eq_true, if_false, if_true, true_and, and_true, true_or, or_true, not_false_eq_true, Nat.reduceAdd, Nat.reduceSub, Nat.reduceLeDiff, Nat.reduceEqDiff, Nat.reduceLT, ↓reduceIte, List.length_cons, List.length_nil, List.set_cons_zero, List.set_cons_succ, Nat.le_refl, Nat.zero_le, Nat.zero_sub, Nat.sub_zero, List.nil_append, List.cons_append, Option.toList_some, Option.toList_none, eq_self, nI_add, ↓jO h']
    refine jc149 h' (by omega) ?_
    refine XZ.runH 60 [3] ?_
    by_cases c1 : f (i + k) = g (j + k)
    · simp only [n78, t78, ↓xh, ↓xst, ↓xrunE, ↓rG, rL, rSt, updA, List.elem_nil, List.elem_cons, Nat.reduceBEq, Bool.false_eq_true, if_false, if_true, true_and, and_true, true_or, or_true, not_false_eq_true, Nat.reduceAdd, Nat.reduceSub, Nat.reduceLeDiff, Nat.reduceEqDiff, Nat.reduceLT, ↓reduceIte, List.length_cons, List.length_nil, List.set_cons_zero, List.set_cons_succ, Nat.le_refl, Nat.zero_le, Nat.zero_sub, Nat.sub_zero, List.nil_append, List.cons_append, Option.toList_some, Option.toList_none, eq_self, c1, nI_1]
      rw [if_pos c1] at hq
      exact ih (k + 1) (by omega) hq
    · simp only [n78, t78, ↓xh, ↓xst, ↓xrunE, ↓rG, rL, rSt, updA, List.elem_nil, List.elem_cons, Nat.reduceBEq, Bool.false_eq_true, if_false, if_true, true_and, and_true, true_or, or_true, not_false_eq_true, Nat.reduceAdd, Nat.reduceSub, Nat.reduceLeDiff, Nat.reduceEqDiff, Nat.reduceLT, ↓reduceIte, List.length_cons, List.length_nil, List.set_cons_zero, List.set_cons_succ, Nat.le_refl, Nat.zero_le, Nat.zero_sub, Nat.sub_zero, List.nil_append, List.cons_append, Option.toList_some, Option.toList_none, eq_self, c1]
      rw [if_neg c1] at hq
      exact hq
set_option maxRecDepth 100000 in
set_option maxHeartbeats 4000000 in
theorem nc78 {E : xE} {M : xM} {a p n b q n' i j c nx : Nat} {f g : Nat → Int32} {Q : Option Value → xM → Nat → Prop} (h : jS M a p n f) (h' : jS M b q n' g) (hi : i + c ≤ n) (hj : j + c ≤ n') (hq : Q (some (.int (if nSame f g i j c 0 then 1 else 0))) M nx) : XC E 78 [.ref a, .int (nI i), .ref b, .int (nI j), .int (nI c)] M nx Q := by
  refine XC.run 60 [3] ?_
  simp only [n78, t78, ↓xh, ↓xst, ↓xrunE, ↓rG, rL, rSt, updA, List.elem_nil, List.elem_cons, Nat.reduceBEq, Bool.false_eq_true, if_false, if_true, true_and, and_true, true_or, or_true, not_false_eq_true, Nat.reduceAdd, Nat.reduceSub, Nat.reduceLeDiff, Nat.reduceEqDiff, Nat.reduceLT, ↓reduceIte, List.length_cons, List.length_nil, List.set_cons_zero, List.set_cons_succ, Nat.le_refl, Nat.zero_le, Nat.zero_sub, Nat.sub_zero, List.nil_append, List.cons_append, Option.toList_some, Option.toList_none, eq_self]
  exact nl78 h h' hi hj c 0 (by omega) hq
