theorem rc99 {E : xE} {M : xM} {m nx : Nat} {s : rS} {Q : Option Value → xM → Nat → Prop} (h : rRep M m s) (hq : Q (some (.int (s.1 48))) M nx) : XC E 99 [.ref m] M nx Q := by
  refine XC.run 20 [] ?_
  simp only [n99, t99, ↓xh, ↓xst, ↓xrunE, ↓xobj, ↓xarr, xputA, List.elem_nil, List.elem_cons, Nat.reduceBEq, Bool.false_eq_true, if_false, if_true, true_and, and_true, true_or, or_true, not_false_eq_true, Nat.reduceAdd, Nat.reduceSub, Nat.reduceLeDiff, Nat.reduceEqDiff, Nat.reduceLT, reduceIte, List.length_cons, List.length_nil, List.set_cons_zero, List.set_cons_succ, Nat.le_refl, Nat.zero_le, Nat.zero_sub, Nat.sub_zero, List.nil_append, List.cons_append, Option.toList_some, Option.toList_none, eq_self, rO h]
  exact hq
def rHas (s : rS) (r n : Nat) : Bool := decide ((s.2 5 r >>> (nI n &&& 31)) &&& 1 = 1)
theorem rc116 {E : xE} {M : xM} {m nx r n : Nat} {s : rS} {Q : Option Value → xM → Nat → Prop} (h : rRep M m s) (hr : r < 6) (hq : Q (some (.int (if rHas s r n then 1 else 0))) M nx) : XC E 116 [.ref m, .int (nI r), .int (nI n)] M nx Q := by
  refine XC.run 20 [] ?_
  simp only [n116, t116, ↓xh, ↓xst, ↓xrunE, ↓xobj, ↓xarr, xputA, List.elem_nil, List.elem_cons, Nat.reduceBEq, Bool.false_eq_true, if_false, if_true, true_and, and_true, true_or, or_true, not_false_eq_true, Nat.reduceAdd, Nat.reduceSub, Nat.reduceLeDiff, Nat.reduceEqDiff, Nat.reduceLT, reduceIte, List.length_cons, List.length_nil, List.set_cons_zero, List.set_cons_succ, Nat.le_refl, Nat.zero_le, Nat.zero_sub, Nat.sub_zero, List.nil_append, List.cons_append, Option.toList_some, Option.toList_none, eq_self, rO h, rA h, nIx hr]
  unfold rHas at hq
  by_cases c : (s.2 5 r >>> (nI n &&& 31)) &&& 1 = 1
  · simpa [c] using hq
  · simpa [c] using hq
/-- the first router of a network: k routers are left, from r on -/
def rFst (s : rS) (n : Nat) : Nat → Nat → Int32
  | 0, _ => -1
  | k + 1, r => if ¬ s.2 6 r = 0 ∧ rHas s r n = true then nI r else rFst s n k (r + 1)
theorem rl125 {E : xE} {M : xM} {m nx n R : Nat} {s : rS} {Q : Option Value → xM → Nat → Prop} (h : rRep M m s) (hR : R ≤ 6) (hs : s.1 9 = nI R) : ∀ k r, r + k = R → Q (some (.int (rFst s n k r))) M nx →
    XZ E 125 (xZ E 125 Q) 2 [some (.ref m), some (.int (nI n)), some (.int (nI r))] [] M nx 0 0 := by
  intro k
  induction k with
  | zero =>
    intro r hr hq
    obtain rfl : r = R := by omega
    refine XZ.runH 20 [2] ?_
    simp only [n125, t125, ↓xh, ↓xst, ↓xrunE, ↓xobj, ↓xarr, xputA, List.elem_nil, List.elem_cons, Nat.reduceBEq, Bool.false_eq_true, if_false, if_true, true_and, and_true, true_or, or_true, not_false_eq_true, Nat.reduceAdd, Nat.reduceSub, Nat.reduceLeDiff, Nat.reduceEqDiff, Nat.reduceLT, reduceIte, List.length_cons, List.length_nil, List.set_cons_zero, List.set_cons_succ, Nat.le_refl, Nat.zero_le, Nat.zero_sub, Nat.sub_zero, List.nil_append, List.cons_append, Option.toList_some, Option.toList_none, eq_self, rO h, hs]
    trace_state
    sorry
  | succ k ih =>
    intro r hr hq
    refine XZ.runH 20 [2] ?_
    simp only [n125, t125, ↓xh, ↓xst, ↓xrunE, ↓xobj, ↓xarr, xputA, List.elem_nil, List.elem_cons, Nat.reduceBEq, Bool.false_eq_true, if_false, if_true, true_and, and_true, true_or, or_true, not_false_eq_true, Nat.reduceAdd, Nat.reduceSub, Nat.reduceLeDiff, Nat.reduceEqDiff, Nat.reduceLT, reduceIte, List.length_cons, List.length_nil, List.set_cons_zero, List.set_cons_succ, Nat.le_refl, Nat.zero_le, Nat.zero_sub, Nat.sub_zero, List.nil_append, List.cons_append, Option.toList_some, Option.toList_none, eq_self, rO h, rA h, hs]
    trace_state
    sorry
