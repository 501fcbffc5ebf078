/-! the class's entries: its small methods -/
theorem jN.rf {M : xM} {a : Nat} {c : xC} (h : M a = some c) : jN M M a c := ⟨h, fun _ _ => rfl⟩
theorem jN.tr {M M1 M2 : xM} {a : Nat} {c c' : xC} (h : jN M M1 a c) (g : jN M1 M2 a c') : jN M M2 a c' := ⟨g.1, fun q hq => (g.2 q hq).trans (h.2 q hq)⟩
theorem xoP {M : xM} {a c : Nat} {fs : List Value} : ∀ P, xobj (xput M a (.inl (c, fs))) a c P = P fs := fun P => by simp [xobj, xput_same]
theorem xpp (M : xM) (a : Nat) (c c' : xC) : xput (xput M a c) a c' = xput M a c' := by
  funext q
  unfold xput
  split <;> rfl
abbrev eC (g : Nat → Int32) : xC := .inl (7, [.int (g 0), .int (g 1), .int (g 2), .int (g 3), .int (g 4), .int (g 5), .int (g 6)])
section ENT
variable {E : xE} {M : xM} {e nx : Nat} {g : Nat → Int32} {Q : Option Value → xM → Nat → Prop}
set_option maxRecDepth 100000 in
set_option maxHeartbeats 4000000 in
theorem ec53 (hb : xb E ≤ e) (h : M e = some (eC g)) (hq : ∀ M', jN M M' e (eC (cRm g)) → Q none M' nx) : XC E 53 [.ref e] M nx Q := by
  refine XC.run 60 [] ?_
  simp only [n53, t53, ↓xh, ↓xst, ↓xrunE, ↓rG, rL, rSt, updA, List.elem_nil, List.elem_cons, Nat.reduceBEq, Bool.false_eq_true, if_false, if_true, true_and, and_true, true_or, or_true, not_false_eq_true, Nat.reduceAdd, Nat.reduceSub, Nat.reduceLeDiff, Nat.reduceEqDiff, Nat.reduceLT, ↓reduceIte, List.length_cons, List.length_nil, List.set_cons_zero, List.set_cons_succ, Nat.le_refl, Nat.zero_le, Nat.zero_sub, Nat.sub_zero, List.nil_append, List.cons_append, Option.toList_some, Option.toList_none, eq_self, ↓cO h, ↓xoP, xpp, hb]
  exact hq _ (jN_put M e (eC (cRm g)))
set_option maxRecDepth 100000 in
set_option maxHeartbeats 4000000 in
theorem ec52 {n : Nat} (hb : xb E ≤ e) (h : M e = some (eC g)) (hq : ∀ M', jN M M' e (eC (cOw n g)) → Q none M' nx) : XC E 52 [.ref e, .int (nI n)] M nx Q := by
  refine XC.run 60 [] ?_
  simp only [n52, t52, ↓xh, ↓xst, ↓xrunE, ↓rG, rL, rSt, updA, List.elem_nil, List.elem_cons, Nat.reduceBEq, Bool.false_eq_true, if_false, if_true, true_and, and_true, true_or, or_true, not_false_eq_true, Nat.reduceAdd, Nat.reduceSub, Nat.reduceLeDiff, Nat.reduceEqDiff, Nat.reduceLT, ↓reduceIte, List.length_cons, List.length_nil, List.set_cons_zero, List.set_cons_succ, Nat.le_refl, Nat.zero_le, Nat.zero_sub, Nat.sub_zero, List.nil_append, List.cons_append, Option.toList_some, Option.toList_none, eq_self, ↓cO h, ↓xoP, xpp, hb]
  exact hq _ (jN_put M e (eC (cOw n g)))
set_option maxRecDepth 100000 in
set_option maxHeartbeats 4000000 in
theorem ec54 (hb : xb E ≤ e) (h : M e = some (eC g)) (hq : ∀ M', jN M M' e (eC (cAg g)) → Q none M' nx) : XC E 54 [.ref e] M nx Q := by
  refine XC.run 60 [] ?_
  by_cases c0 : g 0 = 0
  · simp only [n54, t54, ↓xh, ↓xst, ↓xrunE, ↓rG, rL, rSt, updA, List.elem_nil, List.elem_cons, Nat.reduceBEq, Bool.false_eq_true, if_false, if_true, true_and, and_true, true_or, or_true, not_false_eq_true, Nat.reduceAdd, Nat.reduceSub, Nat.reduceLeDiff, Nat.reduceEqDiff, Nat.reduceLT, ↓reduceIte, List.length_cons, List.length_nil, List.set_cons_zero, List.set_cons_succ, Nat.le_refl, Nat.zero_le, Nat.zero_sub, Nat.sub_zero, List.nil_append, List.cons_append, Option.toList_some, Option.toList_none, eq_self, ↓cO h, c0]
    refine hq _ ?_
    rw [cAg, if_pos (Or.inl c0)]
    exact jN.rf h
  by_cases c2 : g 2 = -1
  · simp only [n54, t54, ↓xh, ↓xst, ↓xrunE, ↓rG, rL, rSt, updA, List.elem_nil, List.elem_cons, Nat.reduceBEq, Bool.false_eq_true, if_false, if_true, true_and, and_true, true_or, or_true, not_false_eq_true, Nat.reduceAdd, Nat.reduceSub, Nat.reduceLeDiff, Nat.reduceEqDiff, Nat.reduceLT, ↓reduceIte, List.length_cons, List.length_nil, List.set_cons_zero, List.set_cons_succ, Nat.le_refl, Nat.zero_le, Nat.zero_sub, Nat.sub_zero, List.nil_append, List.cons_append, Option.toList_some, Option.toList_none, eq_self, ↓cO h, c0, c2]
    refine hq _ ?_
    rw [cAg, if_pos (Or.inr c2)]
    exact jN.rf h
  rw [cAg, if_neg (by simp [c0, c2])] at hq
  by_cases c4 : g 4 = 2
  · rw [if_pos c4] at hq
    simp only [n54, n53, t54, ↓xh, ↓xst, ↓xrunE, ↓rG, rL, rSt, updA, List.elem_nil, List.elem_cons, Nat.reduceBEq, Bool.false_eq_true, if_false, if_true, true_and, and_true, true_or, or_true, not_false_eq_true, Nat.reduceAdd, Nat.reduceSub, Nat.reduceLeDiff, Nat.reduceEqDiff, Nat.reduceLT, ↓reduceIte, List.length_cons, List.length_nil, List.set_cons_zero, List.set_cons_succ, Nat.le_refl, Nat.zero_le, Nat.zero_sub, Nat.sub_zero, List.nil_append, List.cons_append, Option.toList_some, Option.toList_none, eq_self, ↓cO h, c0, c2, c4]
    refine ec53 hb h (fun M' h' => ?_)
    refine XZ.runH 20 [] ?_
    simp only [n54, t54, ↓xh, ↓xst, ↓xrunE, ↓rG, rL, rSt, updA, List.elem_nil, List.elem_cons, Nat.reduceBEq, Bool.false_eq_true, if_false, if_true, true_and, and_true, true_or, or_true, not_false_eq_true, Nat.reduceAdd, Nat.reduceSub, Nat.reduceLeDiff, Nat.reduceEqDiff, Nat.reduceLT, ↓reduceIte, List.length_cons, List.length_nil, List.set_cons_zero, List.set_cons_succ, Nat.le_refl, Nat.zero_le, Nat.zero_sub, Nat.sub_zero, List.nil_append, List.cons_append, Option.toList_some, Option.toList_none, eq_self]
    exact hq _ h'
  · rw [if_neg c4] at hq
    simp only [n54, t54, ↓xh, ↓xst, ↓xrunE, ↓rG, rL, rSt, updA, List.elem_nil, List.elem_cons, Nat.reduceBEq, Bool.false_eq_true, if_false, if_true, true_and, and_true, true_or, or_true, not_false_eq_true, Nat.reduceAdd, Nat.reduceSub, Nat.reduceLeDiff, Nat.reduceEqDiff, Nat.reduceLT, ↓reduceIte, List.length_cons, List.length_nil, List.set_cons_zero, List.set_cons_succ, Nat.le_refl, Nat.zero_le, Nat.zero_sub, Nat.sub_zero, List.nil_append, List.cons_append, Option.toList_some, Option.toList_none, eq_self, ↓cO h, c0, c2, c4, hb]
    exact hq _ (jN_put M e (eC (w [g 0, g 1, g 2, g 3, g 4 + 1, g 5, g 6])))
set_option maxRecDepth 100000 in
set_option maxHeartbeats 4000000 in
theorem ec56 {x t p : Int32} (hb : xb E ≤ e) (h : M e = some (eC g)) (hq : ∀ M', jN M M' e (eC (cTk g x t p)) → Q none M' nx) : XC E 56 [.ref e, .int x, .int t, .int p] M nx Q := by
  have fin : ¬ (¬ g 0 = 0 ∧ g 2 = -1) → XZ E 56 (xZ E 56 Q) 46 [some (.ref e), some (.int x), some (.int t), some (.int p), some (.int (if cSw g t p then 1 else 0))] [] M nx 0 0 := by
    intro n0
    rw [cTk, if_neg n0] at hq
    refine XZ.runH 60 [113] ?_
    by_cases x16 : x = 16
    · rw [if_pos x16] at hq
      by_cases sw : cSw g t p = true
      · rw [if_pos sw] at hq
        simp only [n56, t56, ↓xh, ↓xst, ↓xrunE, ↓rG, rL, rSt, updA, List.elem_nil, List.elem_cons, Nat.reduceBEq, Bool.false_eq_true, if_false, if_true, true_and, and_true, true_or, or_true, not_false_eq_true, Nat.reduceAdd, Nat.reduceSub, Nat.reduceLeDiff, Nat.reduceEqDiff, Nat.reduceLT, ↓reduceIte, List.length_cons, List.length_nil, List.set_cons_zero, List.set_cons_succ, Nat.le_refl, Nat.zero_le, Nat.zero_sub, Nat.sub_zero, List.nil_append, List.cons_append, Option.toList_some, Option.toList_none, eq_self, x16, sw, show ¬ (1 : Int32) = 0 by decide, ↓cO h, hb]
        exact hq _ (jN_put M e (eC (w [g 0, g 1, g 2, g 3, 2, g 5, g 6])))
      · rw [if_neg sw] at hq
        simp only [n56, t56, ↓xh, ↓xst, ↓xrunE, ↓rG, rL, rSt, updA, List.elem_nil, List.elem_cons, Nat.reduceBEq, Bool.false_eq_true, if_false, if_true, true_and, and_true, true_or, or_true, not_false_eq_true, Nat.reduceAdd, Nat.reduceSub, Nat.reduceLeDiff, Nat.reduceEqDiff, Nat.reduceLT, ↓reduceIte, List.length_cons, List.length_nil, List.set_cons_zero, List.set_cons_succ, Nat.le_refl, Nat.zero_le, Nat.zero_sub, Nat.sub_zero, List.nil_append, List.cons_append, Option.toList_some, Option.toList_none, eq_self, x16, sw]
        exact hq _ (jN.rf h)
    rw [if_neg x16] at hq
    by_cases x15 : x = 15
    · rw [if_pos x15] at hq
      by_cases sw : cSw g t p = true
      · rw [if_pos sw] at hq
        simp only [n56, n53, t56, ↓xh, ↓xst, ↓xrunE, ↓rG, rL, rSt, updA, List.elem_nil, List.elem_cons, Nat.reduceBEq, Bool.false_eq_true, if_false, if_true, true_and, and_true, true_or, or_true, not_false_eq_true, Nat.reduceAdd, Nat.reduceSub, Nat.reduceLeDiff, Nat.reduceEqDiff, Nat.reduceLT, ↓reduceIte, List.length_cons, List.length_nil, List.set_cons_zero, List.set_cons_succ, Nat.le_refl, Nat.zero_le, Nat.zero_sub, Nat.sub_zero, List.nil_append, List.cons_append, Option.toList_some, Option.toList_none, eq_self, x15, sw, show ¬ (15 : Int32) = 16 by decide, show ¬ (1 : Int32) = 0 by decide, ↓cO h]
        refine ec53 hb h (fun M' h' => ?_)
        refine XZ.runH 20 [] ?_
        simp only [n56, t56, ↓xh, ↓xst, ↓xrunE, ↓rG, rL, rSt, updA, List.elem_nil, List.elem_cons, Nat.reduceBEq, Bool.false_eq_true, if_false, if_true, true_and, and_true, true_or, or_true, not_false_eq_true, Nat.reduceAdd, Nat.reduceSub, Nat.reduceLeDiff, Nat.reduceEqDiff, Nat.reduceLT, ↓reduceIte, List.length_cons, List.length_nil, List.set_cons_zero, List.set_cons_succ, Nat.le_refl, Nat.zero_le, Nat.zero_sub, Nat.sub_zero, List.nil_append, List.cons_append, Option.toList_some, Option.toList_none, eq_self]
        exact hq _ h'
      · rw [if_neg sw] at hq
        simp only [n56, t56, ↓xh, ↓xst, ↓xrunE, ↓rG, rL, rSt, updA, List.elem_nil, List.elem_cons, Nat.reduceBEq, Bool.false_eq_true, if_false, if_true, true_and, and_true, true_or, or_true, not_false_eq_true, Nat.reduceAdd, Nat.reduceSub, Nat.reduceLeDiff, Nat.reduceEqDiff, Nat.reduceLT, ↓reduceIte, List.length_cons, List.length_nil, List.set_cons_zero, List.set_cons_succ, Nat.le_refl, Nat.zero_le, Nat.zero_sub, Nat.sub_zero, List.nil_append, List.cons_append, Option.toList_some, Option.toList_none, eq_self, x15, sw, show ¬ (15 : Int32) = 16 by decide]
        exact hq _ (jN.rf h)
    rw [if_neg x15] at hq
    have go : (∀ M', jN M M' e (eC (w [1, x + 1, t, p, 0, g 5, g 6])) → Q none M' nx) → XZ E 56 (xZ E 56 Q) 113 [some (.ref e), some (.int x), some (.int t), some (.int p), some (.int (if cSw g t p then 1 else 0))] [] M nx 0 0 := by
      intro k
      refine XZ.runH 60 [] ?_
      simp only [n56, t56, ↓xh, ↓xst, ↓xrunE, ↓rG, rL, rSt, updA, List.elem_nil, List.elem_cons, Nat.reduceBEq, Bool.false_eq_true, if_false, if_true, true_and, and_true, true_or, or_true, not_false_eq_true, Nat.reduceAdd, Nat.reduceSub, Nat.reduceLeDiff, Nat.reduceEqDiff, Nat.reduceLT, ↓reduceIte, List.length_cons, List.length_nil, List.set_cons_zero, List.set_cons_succ, Nat.le_refl, Nat.zero_le, Nat.zero_sub, Nat.sub_zero, List.nil_append, List.cons_append, Option.toList_some, Option.toList_none, eq_self, ↓cO h, ↓xoP, xpp, hb]
      exact k _ (jN_put M e (eC (w [1, x + 1, t, p, 0, g 5, g 6])))
    by_cases a0 : g 0 = 0
    · rw [if_pos (Or.inl a0)] at hq
      simp only [n56, t56, ↓xh, ↓xst, ↓xrunE, ↓rG, rL, rSt, updA, List.elem_nil, List.elem_cons, Nat.reduceBEq, Bool.false_eq_true, if_false, if_true, true_and, and_true, true_or, or_true, not_false_eq_true, Nat.reduceAdd, Nat.reduceSub, Nat.reduceLeDiff, Nat.reduceEqDiff, Nat.reduceLT, ↓reduceIte, List.length_cons, List.length_nil, List.set_cons_zero, List.set_cons_succ, Nat.le_refl, Nat.zero_le, Nat.zero_sub, Nat.sub_zero, List.nil_append, List.cons_append, Option.toList_some, Option.toList_none, eq_self, ↓cO h, x16, x15, a0]
      exact go hq
    by_cases a4 : g 4 = 2
    · rw [if_pos (Or.inr (Or.inl a4))] at hq
      simp only [n56, t56, ↓xh, ↓xst, ↓xrunE, ↓rG, rL, rSt, updA, List.elem_nil, List.elem_cons, Nat.reduceBEq, Bool.false_eq_true, if_false, if_true, true_and, and_true, true_or, or_true, not_false_eq_true, Nat.reduceAdd, Nat.reduceSub, Nat.reduceLeDiff, Nat.reduceEqDiff, Nat.reduceLT, ↓reduceIte, List.length_cons, List.length_nil, List.set_cons_zero, List.set_cons_succ, Nat.le_refl, Nat.zero_le, Nat.zero_sub, Nat.sub_zero, List.nil_append, List.cons_append, Option.toList_some, Option.toList_none, eq_self, ↓cO h, x16, x15, a0, a4]
      exact go hq
    by_cases a1 : x + 1 ≤ g 1
    · rw [if_pos (Or.inr (Or.inr (Or.inl a1)))] at hq
      simp only [n56, t56, ↓xh, ↓xst, ↓xrunE, ↓rG, rL, rSt, updA, List.elem_nil, List.elem_cons, Nat.reduceBEq, Bool.false_eq_true, if_false, if_true, true_and, and_true, true_or, or_true, not_false_eq_true, Nat.reduceAdd, Nat.reduceSub, Nat.reduceLeDiff, Nat.reduceEqDiff, Nat.reduceLT, ↓reduceIte, List.length_cons, List.length_nil, List.set_cons_zero, List.set_cons_succ, Nat.le_refl, Nat.zero_le, Nat.zero_sub, Nat.sub_zero, List.nil_append, List.cons_append, Option.toList_some, Option.toList_none, eq_self, ↓cO h, x16, x15, a0, a4, a1]
      exact go hq
    by_cases sw : cSw g t p = true
    · rw [if_pos (Or.inr (Or.inr (Or.inr sw)))] at hq
      rw [if_pos sw] at go
      simp only [n56, t56, ↓xh, ↓xst, ↓xrunE, ↓rG, rL, rSt, updA, List.elem_nil, List.elem_cons, Nat.reduceBEq, Bool.false_eq_true, if_false, if_true, true_and, and_true, true_or, or_true, not_false_eq_true, Nat.reduceAdd, Nat.reduceSub, Nat.reduceLeDiff, Nat.reduceEqDiff, Nat.reduceLT, ↓reduceIte, List.length_cons, List.length_nil, List.set_cons_zero, List.set_cons_succ, Nat.le_refl, Nat.zero_le, Nat.zero_sub, Nat.sub_zero, List.nil_append, List.cons_append, Option.toList_some, Option.toList_none, eq_self, ↓cO h, x16, x15, a0, a4, a1, sw, show ¬ (1 : Int32) = 0 by decide]
      exact go hq
    · rw [if_neg (by simp [a0, a4, a1, sw])] at hq
      simp only [n56, t56, ↓xh, ↓xst, ↓xrunE, ↓rG, rL, rSt, updA, List.elem_nil, List.elem_cons, Nat.reduceBEq, Bool.false_eq_true, if_false, if_true, true_and, and_true, true_or, or_true, not_false_eq_true, Nat.reduceAdd, Nat.reduceSub, Nat.reduceLeDiff, Nat.reduceEqDiff, Nat.reduceLT, ↓reduceIte, List.length_cons, List.length_nil, List.set_cons_zero, List.set_cons_succ, Nat.le_refl, Nat.zero_le, Nat.zero_sub, Nat.sub_zero, List.nil_append, List.cons_append, Option.toList_some, Option.toList_none, eq_self, ↓cO h, x16, x15, a0, a4, a1, sw]
      exact hq _ (jN.rf h)
  refine XC.run 60 [46] ?_
  by_cases a0 : g 0 = 0
  · have z := fin (by simp [a0])
    simp only [cSw, a0, not_true_eq_false, decide_false, Bool.false_and, Bool.false_eq_true, if_false] at z
    simp only [n56, t56, ↓xh, ↓xst, ↓xrunE, ↓rG, rL, rSt, updA, List.elem_nil, List.elem_cons, Nat.reduceBEq, Bool.false_eq_true, if_false, if_true, true_and, and_true, true_or, or_true, not_false_eq_true, Nat.reduceAdd, Nat.reduceSub, Nat.reduceLeDiff, Nat.reduceEqDiff, Nat.reduceLT, ↓reduceIte, List.length_cons, List.length_nil, List.set_cons_zero, List.set_cons_succ, Nat.le_refl, Nat.zero_le, Nat.zero_sub, Nat.sub_zero, List.nil_append, List.cons_append, Option.toList_some, Option.toList_none, eq_self, ↓cO h, a0]
    exact z
  by_cases a2 : g 2 = -1
  · rw [cTk, if_pos ⟨a0, a2⟩] at hq
    simp only [n56, t56, ↓xh, ↓xst, ↓xrunE, ↓rG, rL, rSt, updA, List.elem_nil, List.elem_cons, Nat.reduceBEq, Bool.false_eq_true, if_false, if_true, true_and, and_true, true_or, or_true, not_false_eq_true, Nat.reduceAdd, Nat.reduceSub, Nat.reduceLeDiff, Nat.reduceEqDiff, Nat.reduceLT, ↓reduceIte, List.length_cons, List.length_nil, List.set_cons_zero, List.set_cons_succ, Nat.le_refl, Nat.zero_le, Nat.zero_sub, Nat.sub_zero, List.nil_append, List.cons_append, Option.toList_some, Option.toList_none, eq_self, ↓cO h, a0, a2]
    exact hq _ (jN.rf h)
  have z := fin (by simp [a2])
  by_cases b2 : g 2 = t
  · by_cases b3 : g 3 = p
    · simp only [cSw, a0, b2, b3, not_false_eq_true, decide_true, Bool.true_and, if_true] at z
      simp only [n56, t56, ↓xh, ↓xst, ↓xrunE, ↓rG, rL, rSt, updA, List.elem_nil, List.elem_cons, Nat.reduceBEq, Bool.false_eq_true, if_false, if_true, true_and, and_true, true_or, or_true, not_false_eq_true, Nat.reduceAdd, Nat.reduceSub, Nat.reduceLeDiff, Nat.reduceEqDiff, Nat.reduceLT, ↓reduceIte, List.length_cons, List.length_nil, List.set_cons_zero, List.set_cons_succ, Nat.le_refl, Nat.zero_le, Nat.zero_sub, Nat.sub_zero, List.nil_append, List.cons_append, Option.toList_some, Option.toList_none, eq_self, ↓cO h, a0, show ¬ t = -1 from b2 ▸ a2, b2, b3]
      exact z
    · simp only [cSw, a0, b2, b3, not_false_eq_true, decide_true, decide_false, Bool.and_false, Bool.false_eq_true, if_false] at z
      simp only [n56, t56, ↓xh, ↓xst, ↓xrunE, ↓rG, rL, rSt, updA, List.elem_nil, List.elem_cons, Nat.reduceBEq, Bool.false_eq_true, if_false, if_true, true_and, and_true, true_or, or_true, not_false_eq_true, Nat.reduceAdd, Nat.reduceSub, Nat.reduceLeDiff, Nat.reduceEqDiff, Nat.reduceLT, ↓reduceIte, List.length_cons, List.length_nil, List.set_cons_zero, List.set_cons_succ, Nat.le_refl, Nat.zero_le, Nat.zero_sub, Nat.sub_zero, List.nil_append, List.cons_append, Option.toList_some, Option.toList_none, eq_self, ↓cO h, a0, show ¬ t = -1 from b2 ▸ a2, b2, b3]
      exact z
  · simp only [cSw, a0, b2, not_false_eq_true, decide_true, decide_false, Bool.and_false, Bool.false_and, Bool.false_eq_true, if_false] at z
    simp only [n56, t56, ↓xh, ↓xst, ↓xrunE, ↓rG, rL, rSt, updA, List.elem_nil, List.elem_cons, Nat.reduceBEq, Bool.false_eq_true, if_false, if_true, true_and, and_true, true_or, or_true, not_false_eq_true, Nat.reduceAdd, Nat.reduceSub, Nat.reduceLeDiff, Nat.reduceEqDiff, Nat.reduceLT, ↓reduceIte, List.length_cons, List.length_nil, List.set_cons_zero, List.set_cons_succ, Nat.le_refl, Nat.zero_le, Nat.zero_sub, Nat.sub_zero, List.nil_append, List.cons_append, Option.toList_some, Option.toList_none, eq_self, ↓cO h, a0, a2, b2]
    exact z
/-- an entry in one number -/
def cIn (g : Nat → Int32) : Int32 := if g 0 = 0 then -1 else
  let a := g 1 + 1024 * g 3
  let b := if g 4 = 0 then a else a + (if g 4 = 1 then 16 else 32)
  let c := if g 5 = 0 then b else b + 64
  if g 2 = -1 then c else c + 128 * (1 + g 2)
set_option maxRecDepth 100000 in
set_option maxHeartbeats 4000000 in
theorem ec51 (h : M e = some (eC g)) (hq : Q (some (.int (cIn g))) M nx) : XC E 51 [.ref e] M nx Q := by
  rw [cIn] at hq
  refine XC.run 60 [] ?_
  by_cases a0 : g 0 = 0
  · rw [if_pos a0] at hq
    simp only [n51, t51, ↓xh, ↓xst, ↓xrunE, ↓rG, rL, rSt, updA, List.elem_nil, List.elem_cons, Nat.reduceBEq, Bool.false_eq_true, if_false, if_true, true_and, and_true, true_or, or_true, not_false_eq_true, Nat.reduceAdd, Nat.reduceSub, Nat.reduceLeDiff, Nat.reduceEqDiff, Nat.reduceLT, ↓reduceIte, List.length_cons, List.length_nil, List.set_cons_zero, List.set_cons_succ, Nat.le_refl, Nat.zero_le, Nat.zero_sub, Nat.sub_zero, List.nil_append, List.cons_append, Option.toList_some, Option.toList_none, eq_self, ↓cO h, a0]
    exact hq
  rw [if_neg a0] at hq
  by_cases a4 : g 4 = 0
  · by_cases a5 : g 5 = 0
    · by_cases a2 : g 2 = -1
      · simp only [n51, t51, ↓xh, ↓xst, ↓xrunE, ↓rG, rL, rSt, updA, List.elem_nil, List.elem_cons, Nat.reduceBEq, Bool.false_eq_true, if_false, if_true, true_and, and_true, true_or, or_true, not_false_eq_true, Nat.reduceAdd, Nat.reduceSub, Nat.reduceLeDiff, Nat.reduceEqDiff, Nat.reduceLT, ↓reduceIte, List.length_cons, List.length_nil, List.set_cons_zero, List.set_cons_succ, Nat.le_refl, Nat.zero_le, Nat.zero_sub, Nat.sub_zero, List.nil_append, List.cons_append, Option.toList_some, Option.toList_none, eq_self, ↓cO h, a0, a4, a5, a2]
        simpa [a4, a5, a2] using hq
      · simp only [n51, t51, ↓xh, ↓xst, ↓xrunE, ↓rG, rL, rSt, updA, List.elem_nil, List.elem_cons, Nat.reduceBEq, Bool.false_eq_true, if_false, if_true, true_and, and_true, true_or, or_true, not_false_eq_true, Nat.reduceAdd, Nat.reduceSub, Nat.reduceLeDiff, Nat.reduceEqDiff, Nat.reduceLT, ↓reduceIte, List.length_cons, List.length_nil, List.set_cons_zero, List.set_cons_succ, Nat.le_refl, Nat.zero_le, Nat.zero_sub, Nat.sub_zero, List.nil_append, List.cons_append, Option.toList_some, Option.toList_none, eq_self, ↓cO h, a0, a4, a5, a2]
        simpa [a4, a5, a2] using hq
    · by_cases a2 : g 2 = -1
      · simp only [n51, t51, ↓xh, ↓xst, ↓xrunE, ↓rG, rL, rSt, updA, List.elem_nil, List.elem_cons, Nat.reduceBEq, Bool.false_eq_true, if_false, if_true, true_and, and_true, true_or, or_true, not_false_eq_true, Nat.reduceAdd, Nat.reduceSub, Nat.reduceLeDiff, Nat.reduceEqDiff, Nat.reduceLT, ↓reduceIte, List.length_cons, List.length_nil, List.set_cons_zero, List.set_cons_succ, Nat.le_refl, Nat.zero_le, Nat.zero_sub, Nat.sub_zero, List.nil_append, List.cons_append, Option.toList_some, Option.toList_none, eq_self, ↓cO h, a0, a4, a5, a2]
        simpa [a4, a5, a2] using hq
      · simp only [n51, t51, ↓xh, ↓xst, ↓xrunE, ↓rG, rL, rSt, updA, List.elem_nil, List.elem_cons, Nat.reduceBEq, Bool.false_eq_true, if_false, if_true, true_and, and_true, true_or, or_true, not_false_eq_true, Nat.reduceAdd, Nat.reduceSub, Nat.reduceLeDiff, Nat.reduceEqDiff, Nat.reduceLT, ↓reduceIte, List.length_cons, List.length_nil, List.set_cons_zero, List.set_cons_succ, Nat.le_refl, Nat.zero_le, Nat.zero_sub, Nat.sub_zero, List.nil_append, List.cons_append, Option.toList_some, Option.toList_none, eq_self, ↓cO h, a0, a4, a5, a2]
        simpa [a4, a5, a2] using hq
  by_cases b4 : g 4 = 1
  · by_cases a5 : g 5 = 0
    · by_cases a2 : g 2 = -1
      · simp only [n51, t51, ↓xh, ↓xst, ↓xrunE, ↓rG, rL, rSt, updA, List.elem_nil, List.elem_cons, Nat.reduceBEq, Bool.false_eq_true, if_false, if_true, true_and, and_true, true_or, or_true, not_false_eq_true, Nat.reduceAdd, Nat.reduceSub, Nat.reduceLeDiff, Nat.reduceEqDiff, Nat.reduceLT, ↓reduceIte, List.length_cons, List.length_nil, List.set_cons_zero, List.set_cons_succ, Nat.le_refl, Nat.zero_le, Nat.zero_sub, Nat.sub_zero, List.nil_append, List.cons_append, Option.toList_some, Option.toList_none, eq_self, ↓cO h, a0, b4, a5, a2, show ¬ (1 : Int32) = 0 by decide]
        simpa [b4, a5, a2] using hq
      · simp only [n51, t51, ↓xh, ↓xst, ↓xrunE, ↓rG, rL, rSt, updA, List.elem_nil, List.elem_cons, Nat.reduceBEq, Bool.false_eq_true, if_false, if_true, true_and, and_true, true_or, or_true, not_false_eq_true, Nat.reduceAdd, Nat.reduceSub, Nat.reduceLeDiff, Nat.reduceEqDiff, Nat.reduceLT, ↓reduceIte, List.length_cons, List.length_nil, List.set_cons_zero, List.set_cons_succ, Nat.le_refl, Nat.zero_le, Nat.zero_sub, Nat.sub_zero, List.nil_append, List.cons_append, Option.toList_some, Option.toList_none, eq_self, ↓cO h, a0, b4, a5, a2, show ¬ (1 : Int32) = 0 by decide]
        simpa [b4, a5, a2] using hq
    · by_cases a2 : g 2 = -1
      · simp only [n51, t51, ↓xh, ↓xst, ↓xrunE, ↓rG, rL, rSt, updA, List.elem_nil, List.elem_cons, Nat.reduceBEq, Bool.false_eq_true, if_false, if_true, true_and, and_true, true_or, or_true, not_false_eq_true, Nat.reduceAdd, Nat.reduceSub, Nat.reduceLeDiff, Nat.reduceEqDiff, Nat.reduceLT, ↓reduceIte, List.length_cons, List.length_nil, List.set_cons_zero, List.set_cons_succ, Nat.le_refl, Nat.zero_le, Nat.zero_sub, Nat.sub_zero, List.nil_append, List.cons_append, Option.toList_some, Option.toList_none, eq_self, ↓cO h, a0, b4, a5, a2, show ¬ (1 : Int32) = 0 by decide]
        simpa [b4, a5, a2] using hq
      · simp only [n51, t51, ↓xh, ↓xst, ↓xrunE, ↓rG, rL, rSt, updA, List.elem_nil, List.elem_cons, Nat.reduceBEq, Bool.false_eq_true, if_false, if_true, true_and, and_true, true_or, or_true, not_false_eq_true, Nat.reduceAdd, Nat.reduceSub, Nat.reduceLeDiff, Nat.reduceEqDiff, Nat.reduceLT, ↓reduceIte, List.length_cons, List.length_nil, List.set_cons_zero, List.set_cons_succ, Nat.le_refl, Nat.zero_le, Nat.zero_sub, Nat.sub_zero, List.nil_append, List.cons_append, Option.toList_some, Option.toList_none, eq_self, ↓cO h, a0, b4, a5, a2, show ¬ (1 : Int32) = 0 by decide]
        simpa [b4, a5, a2] using hq
  · by_cases a5 : g 5 = 0
    · by_cases a2 : g 2 = -1
      · simp only [n51, t51, ↓xh, ↓xst, ↓xrunE, ↓rG, rL, rSt, updA, List.elem_nil, List.elem_cons, Nat.reduceBEq, Bool.false_eq_true, if_false, if_true, true_and, and_true, true_or, or_true, not_false_eq_true, Nat.reduceAdd, Nat.reduceSub, Nat.reduceLeDiff, Nat.reduceEqDiff, Nat.reduceLT, ↓reduceIte, List.length_cons, List.length_nil, List.set_cons_zero, List.set_cons_succ, Nat.le_refl, Nat.zero_le, Nat.zero_sub, Nat.sub_zero, List.nil_append, List.cons_append, Option.toList_some, Option.toList_none, eq_self, ↓cO h, a0, a4, b4, a5, a2]
        simpa [a4, b4, a5, a2] using hq
      · simp only [n51, t51, ↓xh, ↓xst, ↓xrunE, ↓rG, rL, rSt, updA, List.elem_nil, List.elem_cons, Nat.reduceBEq, Bool.false_eq_true, if_false, if_true, true_and, and_true, true_or, or_true, not_false_eq_true, Nat.reduceAdd, Nat.reduceSub, Nat.reduceLeDiff, Nat.reduceEqDiff, Nat.reduceLT, ↓reduceIte, List.length_cons, List.length_nil, List.set_cons_zero, List.set_cons_succ, Nat.le_refl, Nat.zero_le, Nat.zero_sub, Nat.sub_zero, List.nil_append, List.cons_append, Option.toList_some, Option.toList_none, eq_self, ↓cO h, a0, a4, b4, a5, a2]
        simpa [a4, b4, a5, a2] using hq
    · by_cases a2 : g 2 = -1
      · simp only [n51, t51, ↓xh, ↓xst, ↓xrunE, ↓rG, rL, rSt, updA, List.elem_nil, List.elem_cons, Nat.reduceBEq, Bool.false_eq_true, if_false, if_true, true_and, and_true, true_or, or_true, not_false_eq_true, Nat.reduceAdd, Nat.reduceSub, Nat.reduceLeDiff, Nat.reduceEqDiff, Nat.reduceLT, ↓reduceIte, List.length_cons, List.length_nil, List.set_cons_zero, List.set_cons_succ, Nat.le_refl, Nat.zero_le, Nat.zero_sub, Nat.sub_zero, List.nil_append, List.cons_append, Option.toList_some, Option.toList_none, eq_self, ↓cO h, a0, a4, b4, a5, a2]
        simpa [a4, b4, a5, a2] using hq
      · simp only [n51, t51, ↓xh, ↓xst, ↓xrunE, ↓rG, rL, rSt, updA, List.elem_nil, List.elem_cons, Nat.reduceBEq, Bool.false_eq_true, if_false, if_true, true_and, and_true, true_or, or_true, not_false_eq_true, Nat.reduceAdd, Nat.reduceSub, Nat.reduceLeDiff, Nat.reduceEqDiff, Nat.reduceLT, ↓reduceIte, List.length_cons, List.length_nil, List.set_cons_zero, List.set_cons_succ, Nat.le_refl, Nat.zero_le, Nat.zero_sub, Nat.sub_zero, List.nil_append, List.cons_append, Option.toList_some, Option.toList_none, eq_self, ↓cO h, a0, a4, b4, a5, a2]
        simpa [a4, b4, a5, a2] using hq
end ENT
