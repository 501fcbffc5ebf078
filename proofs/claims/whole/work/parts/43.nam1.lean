/-- the strings that the class writes out: the signs (0), nothing (1), the sign for any (3) -/
def nE (E : xE) (M : xM) : Prop := (∃ p f, jS M (E.2.2.2 0) p 5 f ∧ ∀ x, rCh x → ((jIx f x 5 0).isSome = rSign x)) ∧ (∃ p f, jS M (E.2.2.2 1) p 0 f) ∧ ∃ p f, jS M (E.2.2.2 3) p 1 f ∧ f 0 = 61
/-- signs among l letters from k on -/
def nSg (f : Nat → Int32) : Nat → Nat → Int32 → Int32
  | 0, _, c => c
  | l + 1, k, c => nSg f l (k + 1) (if rSign (f k) then c + 1 else c)
set_option maxRecDepth 100000 in
set_option maxHeartbeats 4000000 in
theorem nl75 {E : xE} {M : xM} {a p n nx : Nat} {f : Nat → Int32} {Q : Option Value → xM → Nat → Prop} (he : nE E M) (h : jS M a p n f) : ∀ l k c, k + l = n → Q (some (.int (nSg f l k c))) M nx →
    XZ E 75 (xZ E 75 Q) 4 [some (.ref a), some (.int c), some (.int (nI k))] [] M nx 0 0 := by
  have hn := h.2.2.1
  obtain ⟨⟨ps, fs, hs, hsg⟩, _⟩ := he
  intro l
  induction l with
  | zero =>
    intro k c hk hq
    obtain rfl : k = n := by omega
    refine XZ.runH 60 [4] ?_
    simp only [n75, n148, t75, ↓xh, ↓xst, ↓xrunE, ↓rG, rL, rSt, updA, List.elem_nil, List.elem_cons, Nat.reduceBEq, Bool.false_eq_true, if_false, if_true, true_and, and_true, true_or, or_true, not_false_eq_true, Nat.reduceAdd, Nat.reduceSub, Nat.reduceLeDiff, Nat.reduceEqDiff, Nat.reduceLT, ↓reduceIte, List.length_cons, List.length_nil, List.set_cons_zero, List.set_cons_succ, Nat.le_refl, Nat.zero_le, Nat.zero_sub, Nat.sub_zero, List.nil_append, List.cons_append, Option.toList_some, Option.toList_none, eq_self, ↓jO h]
    refine jc148 h ?_
    refine XZ.runH 60 [4] ?_
    simp only [n75, t75, ↓xh, ↓xst, ↓xrunE, ↓rG, rL, rSt, updA, List.elem_nil, List.elem_cons, Nat.reduceBEq, Bool.false_eq_true, if_false, if_true, true_and, and_true, true_or, or_true, not_false_eq_true, Nat.reduceAdd, Nat.reduceSub, Nat.reduceLeDiff, Nat.reduceEqDiff, Nat.reduceLT, ↓reduceIte, List.length_cons, List.length_nil, List.set_cons_zero, List.set_cons_succ, Nat.le_refl, Nat.zero_le, Nat.zero_sub, Nat.sub_zero, List.nil_append, List.cons_append, Option.toList_some, Option.toList_none, eq_self, nI_le (Nat.le_refl k) (show k < 2 ^ 31 by omega)]
    exact hq
  | succ l ih =>
    intro k c hk hq
    have hr := h.2.2.2 k (by omega)
    rw [nSg] at hq
    refine XZ.runH 60 [4] ?_
    simp only [n75, n148, t75, ↓xh, ↓xst, ↓xrunE, ↓rG, rL, rSt, updA, List.elem_nil, List.elem_cons, Nat.reduceBEq, Bool.false_eq_true, if_false, if_true, true_and, and_true, true_or, or_true, not_false_eq_true, Nat.reduceAdd, Nat.reduceSub, Nat.reduceLeDiff, Nat.reduceEqDiff, Nat.reduceLT, ↓reduceIte, List.length_cons, List.length_nil, List.set_cons_zero, List.set_cons_succ, Nat.le_refl, Nat.zero_le, Nat.zero_sub, Nat.sub_zero, List.nil_append, List.cons_append, Option.toList_some, Option.toList_none, eq_self, ↓jO h]
    refine jc148 h ?_
    refine XZ.runH 60 [4] ?_
    simp only [n75, n149, t75, ↓xh, ↓xst, ↓xrunE, ↓rG, rL, rSt, updA, List.elem_nil, List.elem_cons, Nat.reduceBEq, Bool.false_eq_true, if_false, if_true, true_and, and_true, true_or, or_true, not_false_eq_true, Nat.reduceAdd, Nat.reduceSub, Nat.reduceLeDiff, Nat.reduceEqDiff, Nat.reduceLT, ↓reduceIte, List.length_cons, List.length_nil, List.set_cons_zero, List.set_cons_succ, Nat.le_refl, Nat.zero_le, Nat.zero_sub, Nat.sub_zero, List.nil_append, List.cons_append, Option.toList_some, Option.toList_none, eq_self, nI_ge (show k < n by omega) (show n < 2 ^ 31 by omega), ↓jO h]
    refine jc149 h (by omega) ?_
    refine XZ.runH 60 [4] ?_
    simp only [n75, n143, t75, ↓xh, ↓xst, ↓xrunE, ↓rG, rL, rSt, updA, List.elem_nil, List.elem_cons, Nat.reduceBEq, Bool.false_eq_true, if_false, if_true, true_and, and_true, true_or, or_true, not_false_eq_true, Nat.reduceAdd, Nat.reduceSub, Nat.reduceLeDiff, Nat.reduceEqDiff, Nat.reduceLT, ↓reduceIte, List.length_cons, List.length_nil, List.set_cons_zero, List.set_cons_succ, Nat.le_refl, Nat.zero_le, Nat.zero_sub, Nat.sub_zero, List.nil_append, List.cons_append, Option.toList_some, Option.toList_none, eq_self, ↓jO hs]
    refine jc143 hs hr ?_
    have e := hsg (f k) hr
    cases hj : jIx fs (f k) 5 0 with
    | none =>
      rw [hj] at e
      rw [← e] at hq
      refine XZ.runH 60 [4] ?_
      simp only [n75, t75, ↓xh, ↓xst, ↓xrunE, ↓rG, rL, rSt, updA, List.elem_nil, List.elem_cons, Nat.reduceBEq, Bool.false_eq_true, if_false, if_true, true_and, and_true, true_or, or_true, not_false_eq_true, Nat.reduceAdd, Nat.reduceSub, Nat.reduceLeDiff, Nat.reduceEqDiff, Nat.reduceLT, ↓reduceIte, List.length_cons, List.length_nil, List.set_cons_zero, List.set_cons_succ, Nat.le_refl, Nat.zero_le, Nat.zero_sub, Nat.sub_zero, List.nil_append, List.cons_append, Option.toList_some, Option.toList_none, eq_self, Option.elim, show (-1 : Int32) < 0 by decide, nI_1]
      exact ih (k + 1) c (by omega) hq
    | some t =>
      have := jIx_lt _ _ _ _ _ hj
      rw [hj] at e
      rw [← e] at hq
      have p0 := nI_pos (show t < 2 ^ 31 by omega)
      refine XZ.runH 60 [4] ?_
      simp only [n75, t75, ↓xh, ↓xst, ↓xrunE, ↓rG, rL, rSt, updA, List.elem_nil, List.elem_cons, Nat.reduceBEq, Bool.false_eq_true, if_false, if_true, true_and, and_true, true_or, or_true, not_false_eq_true, Nat.reduceAdd, Nat.reduceSub, Nat.reduceLeDiff, Nat.reduceEqDiff, Nat.reduceLT, ↓reduceIte, List.length_cons, List.length_nil, List.set_cons_zero, List.set_cons_succ, Nat.le_refl, Nat.zero_le, Nat.zero_sub, Nat.sub_zero, List.nil_append, List.cons_append, Option.toList_some, Option.toList_none, eq_self, Option.elim, p0, nI_1]
      exact ih (k + 1) _ (by omega) hq
set_option maxRecDepth 100000 in
set_option maxHeartbeats 4000000 in
theorem nc75 {E : xE} {M : xM} {a p n nx : Nat} {f : Nat → Int32} {Q : Option Value → xM → Nat → Prop} (he : nE E M) (h : jS M a p n f) (hq : Q (some (.int (nSg f n 0 0))) M nx) : XC E 75 [.ref a] M nx Q := by
  refine XC.run 60 [4] ?_
  simp only [n75, t75, ↓xh, ↓xst, ↓xrunE, ↓rG, rL, rSt, updA, List.elem_nil, List.elem_cons, Nat.reduceBEq, Bool.false_eq_true, if_false, if_true, true_and, and_true, true_or, or_true, not_false_eq_true, Nat.reduceAdd, Nat.reduceSub, Nat.reduceLeDiff, Nat.reduceEqDiff, Nat.reduceLT, ↓reduceIte, List.length_cons, List.length_nil, List.set_cons_zero, List.set_cons_succ, Nat.le_refl, Nat.zero_le, Nat.zero_sub, Nat.sub_zero, List.nil_append, List.cons_append, Option.toList_some, Option.toList_none, eq_self]
  exact nl75 he h n 0 0 (by omega) hq
def nNm (f : Nat → Int32) (n : Nat) : Bool := decide (0 < n) && decide (nSg f n 0 0 = 0)
set_option maxRecDepth 100000 in
set_option maxHeartbeats 4000000 in
theorem nc74 {E : xE} {M : xM} {a p n nx : Nat} {f : Nat → Int32} {Q : Option Value → xM → Nat → Prop} (he : nE E M) (h : jS M a p n f) (hq : Q (some (.int (if nNm f n then 1 else 0))) M nx) : XC E 74 [.ref a] M nx Q := by
  refine XC.run 60 [] ?_
  simp only [n74, n142, t74, ↓xh, ↓xst, ↓xrunE, ↓rG, rL, rSt, updA, List.elem_nil, List.elem_cons, Nat.reduceBEq, Bool.false_eq_true, if_false, if_true, true_and, and_true, true_or, or_true, not_false_eq_true, Nat.reduceAdd, Nat.reduceSub, Nat.reduceLeDiff, Nat.reduceEqDiff, Nat.reduceLT, ↓reduceIte, List.length_cons, List.length_nil, List.set_cons_zero, List.set_cons_succ, Nat.le_refl, Nat.zero_le, Nat.zero_sub, Nat.sub_zero, List.nil_append, List.cons_append, Option.toList_some, Option.toList_none, eq_self, ↓jO h]
  refine jc142 h ?_
  by_cases c : n = 0
  · rw [if_pos c]
    refine XZ.runH 60 [] ?_
    simp only [n74, t74, ↓xh, ↓xst, ↓xrunE, ↓rG, rL, rSt, updA, List.elem_nil, List.elem_cons, Nat.reduceBEq, Bool.false_eq_true, if_false, if_true, true_and, and_true, true_or, or_true, not_false_eq_true, Nat.reduceAdd, Nat.reduceSub, Nat.reduceLeDiff, Nat.reduceEqDiff, Nat.reduceLT, ↓reduceIte, List.length_cons, List.length_nil, List.set_cons_zero, List.set_cons_succ, Nat.le_refl, Nat.zero_le, Nat.zero_sub, Nat.sub_zero, List.nil_append, List.cons_append, Option.toList_some, Option.toList_none, eq_self, show ¬ (1 : Int32) = 0 by decide]
    simpa [nNm, c] using hq
  · rw [if_neg c]
    refine XZ.runH 60 [] ?_
    simp only [n74, n75, t74, ↓xh, ↓xst, ↓xrunE, ↓rG, rL, rSt, updA, List.elem_nil, List.elem_cons, Nat.reduceBEq, Bool.false_eq_true, if_false, if_true, true_and, and_true, true_or, or_true, not_false_eq_true, Nat.reduceAdd, Nat.reduceSub, Nat.reduceLeDiff, Nat.reduceEqDiff, Nat.reduceLT, ↓reduceIte, List.length_cons, List.length_nil, List.set_cons_zero, List.set_cons_succ, Nat.le_refl, Nat.zero_le, Nat.zero_sub, Nat.sub_zero, List.nil_append, List.cons_append, Option.toList_some, Option.toList_none, eq_self]
    refine nc75 he h ?_
    refine XZ.runH 60 [] ?_
    by_cases d : nSg f n 0 0 = 0
    · simp only [n74, t74, ↓xh, ↓xst, ↓xrunE, ↓rG, rL, rSt, updA, List.elem_nil, List.elem_cons, Nat.reduceBEq, Bool.false_eq_true, if_false, if_true, true_and, and_true, true_or, or_true, not_false_eq_true, Nat.reduceAdd, Nat.reduceSub, Nat.reduceLeDiff, Nat.reduceEqDiff, Nat.reduceLT, ↓reduceIte, List.length_cons, List.length_nil, List.set_cons_zero, List.set_cons_succ, Nat.le_refl, Nat.zero_le, Nat.zero_sub, Nat.sub_zero, List.nil_append, List.cons_append, Option.toList_some, Option.toList_none, eq_self, d]
      simpa [nNm, d, Nat.pos_of_ne_zero c] using hq
    · simp only [n74, t74, ↓xh, ↓xst, ↓xrunE, ↓rG, rL, rSt, updA, List.elem_nil, List.elem_cons, Nat.reduceBEq, Bool.false_eq_true, if_false, if_true, true_and, and_true, true_or, or_true, not_false_eq_true, Nat.reduceAdd, Nat.reduceSub, Nat.reduceLeDiff, Nat.reduceEqDiff, Nat.reduceLT, ↓reduceIte, List.length_cons, List.length_nil, List.set_cons_zero, List.set_cons_succ, Nat.le_refl, Nat.zero_le, Nat.zero_sub, Nat.sub_zero, List.nil_append, List.cons_append, Option.toList_some, Option.toList_none, eq_self, d]
      simpa [nNm, d] using hq
