theorem jS_un {M : xM} {a p p' n n' : Nat} {f g : Nat → Int32} (h : jS M a p n f) (h' : jS M a p' n' g) : n = n' ∧ ∀ k, f k = g k := by
  have e1 := h.1.symm.trans h'.1
  injection e1 with e1; injection e1 with e1; injection e1 with _ e1; injection e1 with e1 _; injection e1 with e1
  subst e1
  have e2 := h.2.1.symm.trans h'.2.1
  injection e2 with e2; injection e2 with e2; injection e2 with _ e2; injection e2 with e2 e3
  refine ⟨e2, fun k => ?_⟩
  have := congrFun e3 k
  injection this
theorem jEq_rf {f g : Nat → Int32} (h : ∀ k, f k = g k) : ∀ l k, jEq f g l k = true
  | 0, _ => rfl
  | l + 1, k => by rw [jEq, if_pos (h k)]; exact jEq_rf h l (k + 1)
theorem jd146 {E : xE} {M : xM} {a p n a' p' n' nx : Nat} {f g : Nat → Int32} {Q : Option Value → xM → Nat → Prop} (h : jS M a p n f) (h' : jS M a' p' n' g) (hq : Q (some (.int (if n = n' ∧ jEq f g n 0 = true then 1 else 0))) M nx) : XC E 146 [.ref a, .ref a'] M nx Q := by
  refine jc146 h h' (fun e => ?_) (fun _ => hq)
  subst e
  obtain ⟨e1, e2⟩ := jS_un h h'
  rw [if_pos ⟨e1, jEq_rf e2 n 0⟩] at hq
  exact hq
def nAny (f : Nat → Int32) (n : Nat) : Bool := decide (n = 1) && decide (f 0 = 61)
theorem nAny_e {f g : Nat → Int32} {n : Nat} (hg : g 0 = 61) : (n = 1 ∧ jEq f g n 0 = true) ↔ nAny f n = true := by
  simp only [nAny, Bool.and_eq_true, decide_eq_true_eq]
  constructor
  · rintro ⟨rfl, e⟩
    refine ⟨rfl, ?_⟩
    simp only [jEq] at e
    by_cases c : f 0 = g 0
    · rw [c, hg]
    · simp [c] at e
  · rintro ⟨rfl, e⟩
    refine ⟨rfl, ?_⟩
    simp only [jEq]
    rw [if_pos (e.trans hg.symm)]
theorem nAny_i {f g : Nat → Int32} {n : Nat} (hg : g 0 = 61) : (if n = 1 ∧ jEq f g n 0 = true then (1 : Int32) else 0) = if nAny f n then 1 else 0 := by
  by_cases c : nAny f n = true
  · rw [if_pos c, if_pos ((nAny_e hg).mpr c)]
  · rw [if_neg c, if_neg (fun z => c ((nAny_e hg).mp z))]
def nMask (f : Nat → Int32) (n : Nat) : Bool := nNm f n || nAny f n || (decide (nSg f n 0 0 = 1) && (jIx f 126 n 0).isSome)
set_option maxRecDepth 100000 in
set_option maxHeartbeats 4000000 in
theorem nc76 {E : xE} {M : xM} {a p n nx : Nat} {f : Nat → Int32} {Q : Option Value → xM → Nat → Prop} (he : nE E M) (h : jS M a p n f) (hq : Q (some (.int (if nMask f n then 1 else 0))) M nx) : XC E 76 [.ref a] M nx Q := by
  obtain ⟨_, _, p3, f3, h3, e3⟩ := id he
  have hn := h.2.2.1
  rw [nMask] at hq
  refine XC.run 60 [] ?_
  simp only [n76, n74, t76, ↓xh, ↓xst, ↓xrunE, ↓rG, rL, rSt, updA, List.elem_nil, List.elem_cons, Nat.reduceBEq, Bool.false_eq_true, if_false, if_true, true_and, and_true, true_or, or_true, not_false_eq_true, Nat.reduceAdd, Nat.reduceSub, Nat.reduceLeDiff, Nat.reduceEqDiff, Nat.reduceLT, ↓reduceIte, List.length_cons, List.length_nil, List.set_cons_zero, List.set_cons_succ, Nat.le_refl, Nat.zero_le, Nat.zero_sub, Nat.sub_zero, List.nil_append, List.cons_append, Option.toList_some, Option.toList_none, eq_self]
  refine nc74 he h ?_
  refine XZ.runH 60 [] ?_
  by_cases c1 : nNm f n = true
  · simp only [n76, t76, ↓xh, ↓xst, ↓xrunE, ↓rG, rL, rSt, updA, List.elem_nil, List.elem_cons, Nat.reduceBEq, Bool.false_eq_true, if_false, if_true, true_and, and_true, true_or, or_true, not_false_eq_true, Nat.reduceAdd, Nat.reduceSub, Nat.reduceLeDiff, Nat.reduceEqDiff, Nat.reduceLT, ↓reduceIte, List.length_cons, List.length_nil, List.set_cons_zero, List.set_cons_succ, Nat.le_refl, Nat.zero_le, Nat.zero_sub, Nat.sub_zero, List.nil_append, List.cons_append, Option.toList_some, Option.toList_none, eq_self, c1, show ¬ (1 : Int32) = 0 by decide]
    simpa [c1] using hq
  simp only [n76, n146, t76, ↓xh, ↓xst, ↓xrunE, ↓rG, rL, rSt, updA, List.elem_nil, List.elem_cons, Nat.reduceBEq, Bool.false_eq_true, if_false, if_true, true_and, and_true, true_or, or_true, not_false_eq_true, Nat.reduceAdd, Nat.reduceSub, Nat.reduceLeDiff, Nat.reduceEqDiff, Nat.reduceLT, ↓reduceIte, List.length_cons, List.length_nil, List.set_cons_zero, List.set_cons_succ, Nat.le_refl, Nat.zero_le, Nat.zero_sub, Nat.sub_zero, List.nil_append, List.cons_append, Option.toList_some, Option.toList_none, eq_self, c1, ↓jO h]
  refine jd146 h h3 ?_
  rw [nAny_i e3]
  refine XZ.runH 60 [] ?_
  by_cases c2 : nAny f n = true
  · simp only [n76, t76, ↓xh, ↓xst, ↓xrunE, ↓rG, rL, rSt, updA, List.elem_nil, List.elem_cons, Nat.reduceBEq, Bool.false_eq_true, if_false, if_true, true_and, and_true, true_or, or_true, not_false_eq_true, Nat.reduceAdd, Nat.reduceSub, Nat.reduceLeDiff, Nat.reduceEqDiff, Nat.reduceLT, ↓reduceIte, List.length_cons, List.length_nil, List.set_cons_zero, List.set_cons_succ, Nat.le_refl, Nat.zero_le, Nat.zero_sub, Nat.sub_zero, List.nil_append, List.cons_append, Option.toList_some, Option.toList_none, eq_self, c2, show ¬ (1 : Int32) = 0 by decide]
    simpa [c2] using hq
  simp only [n76, n75, t76, ↓xh, ↓xst, ↓xrunE, ↓rG, rL, rSt, updA, List.elem_nil, List.elem_cons, Nat.reduceBEq, Bool.false_eq_true, if_false, if_true, true_and, and_true, true_or, or_true, not_false_eq_true, Nat.reduceAdd, Nat.reduceSub, Nat.reduceLeDiff, Nat.reduceEqDiff, Nat.reduceLT, ↓reduceIte, List.length_cons, List.length_nil, List.set_cons_zero, List.set_cons_succ, Nat.le_refl, Nat.zero_le, Nat.zero_sub, Nat.sub_zero, List.nil_append, List.cons_append, Option.toList_some, Option.toList_none, eq_self, c2]
  refine nc75 he h ?_
  refine XZ.runH 60 [] ?_
  by_cases c3 : nSg f n 0 0 = 1
  rotate_left
  · simp only [n76, t76, ↓xh, ↓xst, ↓xrunE, ↓rG, rL, rSt, updA, List.elem_nil, List.elem_cons, Nat.reduceBEq, Bool.false_eq_true, if_false, if_true, true_and, and_true, true_or, or_true, not_false_eq_true, Nat.reduceAdd, Nat.reduceSub, Nat.reduceLeDiff, Nat.reduceEqDiff, Nat.reduceLT, ↓reduceIte, List.length_cons, List.length_nil, List.set_cons_zero, List.set_cons_succ, Nat.le_refl, Nat.zero_le, Nat.zero_sub, Nat.sub_zero, List.nil_append, List.cons_append, Option.toList_some, Option.toList_none, eq_self, c3]
    simpa [c1, c2, c3] using hq
  simp only [n76, n143, t76, ↓xh, ↓xst, ↓xrunE, ↓rG, rL, rSt, updA, List.elem_nil, List.elem_cons, Nat.reduceBEq, Bool.false_eq_true, if_false, if_true, true_and, and_true, true_or, or_true, not_false_eq_true, Nat.reduceAdd, Nat.reduceSub, Nat.reduceLeDiff, Nat.reduceEqDiff, Nat.reduceLT, ↓reduceIte, List.length_cons, List.length_nil, List.set_cons_zero, List.set_cons_succ, Nat.le_refl, Nat.zero_le, Nat.zero_sub, Nat.sub_zero, List.nil_append, List.cons_append, Option.toList_some, Option.toList_none, eq_self, c3, ↓jO h]
  refine jc143 h ⟨126, by decide, rfl⟩ ?_
  refine XZ.runH 60 [] ?_
  cases hj : jIx f 126 n 0 with
  | none =>
    simp only [n76, t76, ↓xh, ↓xst, ↓xrunE, ↓rG, rL, rSt, updA, List.elem_nil, List.elem_cons, Nat.reduceBEq, Bool.false_eq_true, if_false, if_true, true_and, and_true, true_or, or_true, not_false_eq_true, Nat.reduceAdd, Nat.reduceSub, Nat.reduceLeDiff, Nat.reduceEqDiff, Nat.reduceLT, ↓reduceIte, List.length_cons, List.length_nil, List.set_cons_zero, List.set_cons_succ, Nat.le_refl, Nat.zero_le, Nat.zero_sub, Nat.sub_zero, List.nil_append, List.cons_append, Option.toList_some, Option.toList_none, eq_self, Option.elim, show (-1 : Int32) < 0 by decide]
    simpa [c1, c2, hj] using hq
  | some t =>
    have := jIx_lt _ _ _ _ _ hj
    have p0 := nI_pos (show t < 2 ^ 31 by omega)
    simp only [n76, t76, ↓xh, ↓xst, ↓xrunE, ↓rG, rL, rSt, updA, List.elem_nil, List.elem_cons, Nat.reduceBEq, Bool.false_eq_true, if_false, if_true, true_and, and_true, true_or, or_true, not_false_eq_true, Nat.reduceAdd, Nat.reduceSub, Nat.reduceLeDiff, Nat.reduceEqDiff, Nat.reduceLT, ↓reduceIte, List.length_cons, List.length_nil, List.set_cons_zero, List.set_cons_succ, Nat.le_refl, Nat.zero_le, Nat.zero_sub, Nat.sub_zero, List.nil_append, List.cons_append, Option.toList_some, Option.toList_none, eq_self, Option.elim, p0]
    simpa [c3, hj] using hq
