/-- whether router r takes what t tells on p about n -/
def rTc (s : rS) (r t p n : Nat) : Bool := decide (¬ t = r) && decide (¬ s.2 6 t = 0) && rHas s r p && rHas s t p && decide (¬ s.2 12 (8 * t + n) < 0) && decide (¬ s.2 13 (8 * t + n) = nI p) && !rHas s r n
def rTn (r t p : Nat) : Nat → Nat → rS → rS
  | 0, _, s => s
  | l + 1, n, s => rTn r t p l (n + 1) (if rTc s r t p n then rTake s r t p n else s)
def rTp (r t : Nat) : Nat → Nat → rS → rS
  | 0, _, s => s
  | l + 1, p, s => rTp r t l (p + 1) (rTn r t p 8 0 s)
def rTs (r : Nat) : Nat → Nat → rS → rS
  | 0, _, s => s
  | l + 1, t, s => rTs r l (t + 1) (rTp r t 8 0 s)
theorem rTake_1 (s : rS) (r t p n : Nat) : (rTake s r t p n).1 = s.1 := by
  unfold rTake
  split
  · rfl
  · split
    · rfl
    · split <;> rfl
set_option maxRecDepth 100000 in
set_option maxHeartbeats 4000000 in
theorem rln108 {E : xE} {M0 : xM} {m nx r t p : Nat} {Q : Option Value → xM → Nat → Prop} (hb : xb E ≤ m) (hr : r < 6) (ht : t < 6) (hp : p < 8) (s' : rS)
    (k : ∀ M', rR M0 M' m s' → XZ E 108 (xZ E 108 Q) 116 [some (.ref m), some (.int (nI r)), some (.int (nI t)), some (.int (nI p)), some (.int (nI 8))] [] M' nx 0 0) : ∀ l n s M, n + l = 8 → rTn r t p l n s = s' → rR M0 M m s →
    XZ E 108 (xZ E 108 Q) 21 [some (.ref m), some (.int (nI r)), some (.int (nI t)), some (.int (nI p)), some (.int (nI n))] [] M nx 0 0 := by
  intro l
  induction l with
  | zero =>
    intro n s M hn hs h
    obtain rfl : n = 8 := by omega
    refine XZ.runH 60 [21, 116] ?_
    simp only [n108, t108, ↓xh, ↓xst, ↓xrunE, ↓rG, rL, rSt, updA, List.elem_nil, List.elem_cons, Nat.reduceBEq, Bool.false_eq_true, if_false, if_true, true_and, and_true, true_or, or_true, not_false_eq_true, Nat.reduceAdd, Nat.reduceSub, Nat.reduceLeDiff, Nat.reduceEqDiff, Nat.reduceLT, ↓reduceIte, List.length_cons, List.length_nil, List.set_cons_zero, List.set_cons_succ, Nat.le_refl, Nat.zero_le, Nat.zero_sub, Nat.sub_zero, List.nil_append, List.cons_append, Option.toList_some, Option.toList_none, eq_self, show (8 : Int32) ≤ nI 8 by decide]
    exact k M (h.to hs)
  | succ l ih =>
    intro n s M hn hs h
    have g : ¬ (8 : Int32) ≤ nI n := nI_ge (show n < 8 by omega) (by decide)
    have itn := nIx (show 8 * t + n < 48 by omega)
    have skip : rTc s r t p n = false → XZ E 108 (xZ E 108 Q) 110 [some (.ref m), some (.int (nI r)), some (.int (nI t)), some (.int (nI p)), some (.int (nI n))] [] M nx 0 0 := by
      intro z
      refine XZ.runH 60 [21] ?_
      simp only [n108, t108, ↓xh, ↓xst, ↓xrunE, ↓rG, rL, rSt, updA, List.elem_nil, List.elem_cons, Nat.reduceBEq, Bool.false_eq_true, if_false, if_true, true_and, and_true, true_or, or_true, not_false_eq_true, Nat.reduceAdd, Nat.reduceSub, Nat.reduceLeDiff, Nat.reduceEqDiff, Nat.reduceLT, ↓reduceIte, List.length_cons, List.length_nil, List.set_cons_zero, List.set_cons_succ, Nat.le_refl, Nat.zero_le, Nat.zero_sub, Nat.sub_zero, List.nil_append, List.cons_append, Option.toList_some, Option.toList_none, eq_self, nI_1]
      refine ih (n + 1) s M (by omega) ?_ h
      rw [← hs, rTn, z]
      rfl
    refine XZ.runH 60 [21, 110] ?_
    by_cases c1 : t = r
    · subst c1
      simp only [n108, t108, ↓xh, ↓xst, ↓xrunE, ↓rG, rL, rSt, updA, List.elem_nil, List.elem_cons, Nat.reduceBEq, Bool.false_eq_true, if_false, if_true, true_and, and_true, true_or, or_true, not_false_eq_true, Nat.reduceAdd, Nat.reduceSub, Nat.reduceLeDiff, Nat.reduceEqDiff, Nat.reduceLT, ↓reduceIte, List.length_cons, List.length_nil, List.set_cons_zero, List.set_cons_succ, Nat.le_refl, Nat.zero_le, Nat.zero_sub, Nat.sub_zero, List.nil_append, List.cons_append, Option.toList_some, Option.toList_none, eq_self, g]
      exact skip (by simp [rTc])
    · have c1' : ¬ nI t = nI r := fun z => c1 ((nI_eq (by omega) (by omega)).mp z)
      by_cases c2 : s.2 6 t = 0
      · simp only [n108, t108, ↓xh, ↓xst, ↓xrunE, ↓rG, rL, rSt, updA, List.elem_nil, List.elem_cons, Nat.reduceBEq, Bool.false_eq_true, if_false, if_true, true_and, and_true, true_or, or_true, not_false_eq_true, Nat.reduceAdd, Nat.reduceSub, Nat.reduceLeDiff, Nat.reduceEqDiff, Nat.reduceLT, ↓reduceIte, List.length_cons, List.length_nil, List.set_cons_zero, List.set_cons_succ, Nat.le_refl, Nat.zero_le, Nat.zero_sub, Nat.sub_zero, List.nil_append, List.cons_append, Option.toList_some, Option.toList_none, eq_self, g, c1', ↓rO1 h.1, ↓rB h.1, nIx ht, c2]
        exact skip (by simp [rTc, c2])
      · simp only [n108, n116, t108, ↓xh, ↓xst, ↓xrunE, ↓rG, rL, rSt, updA, List.elem_nil, List.elem_cons, Nat.reduceBEq, Bool.false_eq_true, if_false, if_true, true_and, and_true, true_or, or_true, not_false_eq_true, Nat.reduceAdd, Nat.reduceSub, Nat.reduceLeDiff, Nat.reduceEqDiff, Nat.reduceLT, ↓reduceIte, List.length_cons, List.length_nil, List.set_cons_zero, List.set_cons_succ, Nat.le_refl, Nat.zero_le, Nat.zero_sub, Nat.sub_zero, List.nil_append, List.cons_append, Option.toList_some, Option.toList_none, eq_self, g, c1', ↓rO1 h.1, ↓rB h.1, nIx ht, c2]
        refine rc116 h.1 hr ?_
        refine XZ.runH 60 [21, 110] ?_
        by_cases c3 : rHas s r p = true
        · simp only [n108, n116, t108, ↓xh, ↓xst, ↓xrunE, ↓rG, rL, rSt, updA, List.elem_nil, List.elem_cons, Nat.reduceBEq, Bool.false_eq_true, if_false, if_true, true_and, and_true, true_or, or_true, not_false_eq_true, Nat.reduceAdd, Nat.reduceSub, Nat.reduceLeDiff, Nat.reduceEqDiff, Nat.reduceLT, ↓reduceIte, List.length_cons, List.length_nil, List.set_cons_zero, List.set_cons_succ, Nat.le_refl, Nat.zero_le, Nat.zero_sub, Nat.sub_zero, List.nil_append, List.cons_append, Option.toList_some, Option.toList_none, eq_self, c3, show ¬ (1 : Int32) = 0 by decide, ↓rO1 h.1]
          refine rc116 h.1 ht ?_
          refine XZ.runH 60 [21, 110] ?_
          by_cases c4 : rHas s t p = true
          · by_cases c5 : s.2 12 (8 * t + n) < 0
            · simp only [n108, t108, ↓xh, ↓xst, ↓xrunE, ↓rG, rL, rSt, updA, List.elem_nil, List.elem_cons, Nat.reduceBEq, Bool.false_eq_true, if_false, if_true, true_and, and_true, true_or, or_true, not_false_eq_true, Nat.reduceAdd, Nat.reduceSub, Nat.reduceLeDiff, Nat.reduceEqDiff, Nat.reduceLT, ↓reduceIte, List.length_cons, List.length_nil, List.set_cons_zero, List.set_cons_succ, Nat.le_refl, Nat.zero_le, Nat.zero_sub, Nat.sub_zero, List.nil_append, List.cons_append, Option.toList_some, Option.toList_none, eq_self, c4, show ¬ (1 : Int32) = 0 by decide, ↓rO1 h.1, ↓rB h.1, nIm8, nI_add, itn, lT c5]
              exact skip (by simp [rTc, c5])
            · by_cases c6 : s.2 13 (8 * t + n) = nI p
              · simp only [n108, t108, ↓xh, ↓xst, ↓xrunE, ↓rG, rL, rSt, updA, List.elem_nil, List.elem_cons, Nat.reduceBEq, Bool.false_eq_true, if_false, if_true, true_and, and_true, true_or, or_true, not_false_eq_true, Nat.reduceAdd, Nat.reduceSub, Nat.reduceLeDiff, Nat.reduceEqDiff, Nat.reduceLT, ↓reduceIte, List.length_cons, List.length_nil, List.set_cons_zero, List.set_cons_succ, Nat.le_refl, Nat.zero_le, Nat.zero_sub, Nat.sub_zero, List.nil_append, List.cons_append, Option.toList_some, Option.toList_none, eq_self, c4, show ¬ (1 : Int32) = 0 by decide, ↓rO1 h.1, ↓rB h.1, nIm8, nI_add, itn, lF c5, c6]
                exact skip (by simp [rTc, c6])
              · simp only [n108, n116, t108, ↓xh, ↓xst, ↓xrunE, ↓rG, rL, rSt, updA, List.elem_nil, List.elem_cons, Nat.reduceBEq, Bool.false_eq_true, if_false, if_true, true_and, and_true, true_or, or_true, not_false_eq_true, Nat.reduceAdd, Nat.reduceSub, Nat.reduceLeDiff, Nat.reduceEqDiff, Nat.reduceLT, ↓reduceIte, List.length_cons, List.length_nil, List.set_cons_zero, List.set_cons_succ, Nat.le_refl, Nat.zero_le, Nat.zero_sub, Nat.sub_zero, List.nil_append, List.cons_append, Option.toList_some, Option.toList_none, eq_self, c4, show ¬ (1 : Int32) = 0 by decide, ↓rO1 h.1, ↓rB h.1, nIm8, nI_add, itn, lF c5, c6]
                refine rc116 h.1 hr ?_
                refine XZ.runH 60 [21, 110] ?_
                by_cases c7 : rHas s r n = true
                · simp only [n108, t108, ↓xh, ↓xst, ↓xrunE, ↓rG, rL, rSt, updA, List.elem_nil, List.elem_cons, Nat.reduceBEq, Bool.false_eq_true, if_false, if_true, true_and, and_true, true_or, or_true, not_false_eq_true, Nat.reduceAdd, Nat.reduceSub, Nat.reduceLeDiff, Nat.reduceEqDiff, Nat.reduceLT, ↓reduceIte, List.length_cons, List.length_nil, List.set_cons_zero, List.set_cons_succ, Nat.le_refl, Nat.zero_le, Nat.zero_sub, Nat.sub_zero, List.nil_append, List.cons_append, Option.toList_some, Option.toList_none, eq_self, c7, show ¬ (1 : Int32) = 0 by decide]
                  exact skip (by simp [rTc, c7])
                · simp only [n108, n121, t108, ↓xh, ↓xst, ↓xrunE, ↓rG, rL, rSt, updA, List.elem_nil, List.elem_cons, Nat.reduceBEq, Bool.false_eq_true, if_false, if_true, true_and, and_true, true_or, or_true, not_false_eq_true, Nat.reduceAdd, Nat.reduceSub, Nat.reduceLeDiff, Nat.reduceEqDiff, Nat.reduceLT, ↓reduceIte, List.length_cons, List.length_nil, List.set_cons_zero, List.set_cons_succ, Nat.le_refl, Nat.zero_le, Nat.zero_sub, Nat.sub_zero, List.nil_append, List.cons_append, Option.toList_some, Option.toList_none, eq_self, c7, ↓rO1 h.1]
                  refine rc121 hb h hr ht (by omega) (fun M1 h1 => ?_)
                  refine XZ.runH 60 [21] ?_
                  simp only [n108, t108, ↓xh, ↓xst, ↓xrunE, ↓rG, rL, rSt, updA, List.elem_nil, List.elem_cons, Nat.reduceBEq, Bool.false_eq_true, if_false, if_true, true_and, and_true, true_or, or_true, not_false_eq_true, Nat.reduceAdd, Nat.reduceSub, Nat.reduceLeDiff, Nat.reduceEqDiff, Nat.reduceLT, ↓reduceIte, List.length_cons, List.length_nil, List.set_cons_zero, List.set_cons_succ, Nat.le_refl, Nat.zero_le, Nat.zero_sub, Nat.sub_zero, List.nil_append, List.cons_append, Option.toList_some, Option.toList_none, eq_self, nI_1]
                  refine ih (n + 1) _ M1 (by omega) ?_ h1
                  have z : rTc s r t p n = true := by simp [rTc, c1, c2, c3, c4, c5, c6, c7]
                  rw [← hs, rTn, z]
                  rfl
          · simp only [n108, t108, ↓xh, ↓xst, ↓xrunE, ↓rG, rL, rSt, updA, List.elem_nil, List.elem_cons, Nat.reduceBEq, Bool.false_eq_true, if_false, if_true, true_and, and_true, true_or, or_true, not_false_eq_true, Nat.reduceAdd, Nat.reduceSub, Nat.reduceLeDiff, Nat.reduceEqDiff, Nat.reduceLT, ↓reduceIte, List.length_cons, List.length_nil, List.set_cons_zero, List.set_cons_succ, Nat.le_refl, Nat.zero_le, Nat.zero_sub, Nat.sub_zero, List.nil_append, List.cons_append, Option.toList_some, Option.toList_none, eq_self, c4]
            exact skip (by simp [rTc, c4])
        · simp only [n108, t108, ↓xh, ↓xst, ↓xrunE, ↓rG, rL, rSt, updA, List.elem_nil, List.elem_cons, Nat.reduceBEq, Bool.false_eq_true, if_false, if_true, true_and, and_true, true_or, or_true, not_false_eq_true, Nat.reduceAdd, Nat.reduceSub, Nat.reduceLeDiff, Nat.reduceEqDiff, Nat.reduceLT, ↓reduceIte, List.length_cons, List.length_nil, List.set_cons_zero, List.set_cons_succ, Nat.le_refl, Nat.zero_le, Nat.zero_sub, Nat.sub_zero, List.nil_append, List.cons_append, Option.toList_some, Option.toList_none, eq_self, c3]
          exact skip (by simp [rTc, c3])
set_option maxRecDepth 100000 in
set_option maxHeartbeats 4000000 in
theorem rlp108 {E : xE} {M0 : xM} {m nx r t : Nat} {Q : Option Value → xM → Nat → Prop} (hb : xb E ≤ m) (hr : r < 6) (ht : t < 6) (s' : rS)
    (k : ∀ M' v, rR M0 M' m s' → XZ E 108 (xZ E 108 Q) 122 [some (.ref m), some (.int (nI r)), some (.int (nI t)), some (.int (nI 8)), v] [] M' nx 0 0) : ∀ l p s M v, p + l = 8 → rTp r t l p s = s' → rR M0 M m s →
    XZ E 108 (xZ E 108 Q) 12 [some (.ref m), some (.int (nI r)), some (.int (nI t)), some (.int (nI p)), v] [] M nx 0 0 := by
  intro l
  induction l with
  | zero =>
    intro p s M v hp hs h
    obtain rfl : p = 8 := by omega
    refine XZ.runH 60 [12, 122] ?_
    simp only [n108, t108, ↓xh, ↓xst, ↓xrunE, ↓rG, rL, rSt, updA, List.elem_nil, List.elem_cons, Nat.reduceBEq, Bool.false_eq_true, if_false, if_true, true_and, and_true, true_or, or_true, not_false_eq_true, Nat.reduceAdd, Nat.reduceSub, Nat.reduceLeDiff, Nat.reduceEqDiff, Nat.reduceLT, ↓reduceIte, List.length_cons, List.length_nil, List.set_cons_zero, List.set_cons_succ, Nat.le_refl, Nat.zero_le, Nat.zero_sub, Nat.sub_zero, List.nil_append, List.cons_append, Option.toList_some, Option.toList_none, eq_self, show (8 : Int32) ≤ nI 8 by decide]
    exact k M v (h.to hs)
  | succ l ih =>
    intro p s M v hp hs h
    have g : ¬ (8 : Int32) ≤ nI p := nI_ge (show p < 8 by omega) (by decide)
    refine XZ.runH 60 [12, 21] ?_
    simp only [n108, t108, ↓xh, ↓xst, ↓xrunE, ↓rG, rL, rSt, updA, List.elem_nil, List.elem_cons, Nat.reduceBEq, Bool.false_eq_true, if_false, if_true, true_and, and_true, true_or, or_true, not_false_eq_true, Nat.reduceAdd, Nat.reduceSub, Nat.reduceLeDiff, Nat.reduceEqDiff, Nat.reduceLT, ↓reduceIte, List.length_cons, List.length_nil, List.set_cons_zero, List.set_cons_succ, Nat.le_refl, Nat.zero_le, Nat.zero_sub, Nat.sub_zero, List.nil_append, List.cons_append, Option.toList_some, Option.toList_none, eq_self, g]
    refine rln108 hb hr ht (by omega) (rTn r t p 8 0 s) (fun M1 h1 => ?_) 8 0 s M rfl rfl h
    refine XZ.runH 60 [12] ?_
    simp only [n108, t108, ↓xh, ↓xst, ↓xrunE, ↓rG, rL, rSt, updA, List.elem_nil, List.elem_cons, Nat.reduceBEq, Bool.false_eq_true, if_false, if_true, true_and, and_true, true_or, or_true, not_false_eq_true, Nat.reduceAdd, Nat.reduceSub, Nat.reduceLeDiff, Nat.reduceEqDiff, Nat.reduceLT, ↓reduceIte, List.length_cons, List.length_nil, List.set_cons_zero, List.set_cons_succ, Nat.le_refl, Nat.zero_le, Nat.zero_sub, Nat.sub_zero, List.nil_append, List.cons_append, Option.toList_some, Option.toList_none, eq_self, nI_1]
    exact ih (p + 1) _ M1 _ (by omega) hs h1
