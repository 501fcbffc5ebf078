theorem nI_subn (x y : Nat) (h : y ≤ x) : nI x - nI y = nI (x - y) := by
  have := nI_subr (x - y) y
  rwa [Nat.sub_add_cancel h] at this
def rPa : Option Nat → Int32
  | none => -1
  | some p => nI p
def rZm (s : rS) (Z a b : Nat) : Option Nat → Bool
  | none => rSame s b a
  | some p => decide (rLn s b = Z - p) && rStands s b 0 p Z
def rReachB (s : rS) (R a b : Nat) : Int32 :=
  if rFst s a R 0 < 0 ∨ s.2 7 (8 * (rFst s a R 0).toNatClampNeg + b) < 0 ∨ s.2 11 (8 * (rFst s a R 0).toNatClampNeg + b) = 0 ∨ rWay s R b a < 0 then -1 else rWay s R a b
def rReach (s : rS) (R Z a b : Nat) (p : Option Nat) : Int32 := if rZm s Z a b p then (if a = b then 0 else rReachB s R a b) else -1
set_option maxRecDepth 100000 in
set_option maxHeartbeats 4000000 in
theorem rm118 {E : xE} {M : xM} {m nx R a b : Nat} {v : Bool} {l3 l5 : Option Value} {s : rS} {Q : Option Value → xM → Nat → Prop} (h : rRep M m s) (hR : R ≤ 6) (hs : s.1 9 = nI R) (ha : a < 8) (hb : b < 8) (hnx : ∀ k, k < 48 → rRt (s.2 8 k))
    (hq : Q (some (.int (if v then (if a = b then 0 else rReachB s R a b) else -1))) M nx) :
    XZ E 118 (xZ E 118 Q) 49 [some (.ref m), some (.int (nI a)), some (.int (nI b)), l3, some (.int (if v then 1 else 0)), l5] [] M nx 0 0 := by
  refine XZ.runH 60 [] ?_
  cases v with
  | false =>
    simp only [n118, t118, ↓xh, ↓xst, ↓xrunE, ↓rG, rL, rSt, updA, List.elem_nil, List.elem_cons, Nat.reduceBEq, Bool.false_eq_true, if_false, if_true, true_and, and_true, true_or, or_true, not_false_eq_true, Nat.reduceAdd, Nat.reduceSub, Nat.reduceLeDiff, Nat.reduceEqDiff, Nat.reduceLT, ↓reduceIte, List.length_cons, List.length_nil, List.set_cons_zero, List.set_cons_succ, Nat.le_refl, Nat.zero_le, Nat.zero_sub, Nat.sub_zero, List.nil_append, List.cons_append, Option.toList_some, Option.toList_none, eq_self]
    exact hq
  | true =>
    rw [if_pos rfl] at hq
    by_cases c1 : a = b
    · subst c1
      rw [if_pos rfl] at hq
      simp only [n118, t118, ↓xh, ↓xst, ↓xrunE, ↓rG, rL, rSt, updA, List.elem_nil, List.elem_cons, Nat.reduceBEq, Bool.false_eq_true, if_false, if_true, true_and, and_true, true_or, or_true, not_false_eq_true, Nat.reduceAdd, Nat.reduceSub, Nat.reduceLeDiff, Nat.reduceEqDiff, Nat.reduceLT, ↓reduceIte, List.length_cons, List.length_nil, List.set_cons_zero, List.set_cons_succ, Nat.le_refl, Nat.zero_le, Nat.zero_sub, Nat.sub_zero, List.nil_append, List.cons_append, Option.toList_some, Option.toList_none, eq_self, show ¬ (1 : Int32) = 0 by decide]
      exact hq
    · rw [if_neg c1] at hq
      have n1 : ¬ nI a = nI b := fun z => c1 (nI_inj (by omega) (by omega) z)
      simp only [n118, n125, t118, ↓xh, ↓xst, ↓xrunE, ↓rG, rL, rSt, updA, List.elem_nil, List.elem_cons, Nat.reduceBEq, Bool.false_eq_true, if_false, if_true, true_and, and_true, true_or, or_true, not_false_eq_true, Nat.reduceAdd, Nat.reduceSub, Nat.reduceLeDiff, Nat.reduceEqDiff, Nat.reduceLT, ↓reduceIte, List.length_cons, List.length_nil, List.set_cons_zero, List.set_cons_succ, Nat.le_refl, Nat.zero_le, Nat.zero_sub, Nat.sub_zero, List.nil_append, List.cons_append, Option.toList_some, Option.toList_none, eq_self, show ¬ (1 : Int32) = 0 by decide, n1, ↓rO1 h]
      refine rc125 h hR hs ?_
      rw [rReachB] at hq
      refine XZ.runH 60 [] ?_
      rcases rFst_rt s a R 0 (by omega) with c2 | ⟨r, hr, er⟩
      · rw [if_pos (Or.inl c2)] at hq
        simp only [n118, t118, ↓xh, ↓xst, ↓xrunE, ↓rG, rL, rSt, updA, List.elem_nil, List.elem_cons, Nat.reduceBEq, Bool.false_eq_true, if_false, if_true, true_and, and_true, true_or, or_true, not_false_eq_true, Nat.reduceAdd, Nat.reduceSub, Nat.reduceLeDiff, Nat.reduceEqDiff, Nat.reduceLT, ↓reduceIte, List.length_cons, List.length_nil, List.set_cons_zero, List.set_cons_succ, Nat.le_refl, Nat.zero_le, Nat.zero_sub, Nat.sub_zero, List.nil_append, List.cons_append, Option.toList_some, Option.toList_none, eq_self, c2]
        exact hq
      · rw [er] at hq ⊢
        have p0 := nI_pos (show r < 2 ^ 31 by omega)
        rw [nI_clamp (show r < 2 ^ 31 by omega)] at hq
        have ik := nIx (show 8 * r + b < 48 by omega)
        by_cases c3 : s.2 7 (8 * r + b) < 0
        · rw [if_pos (Or.inr (Or.inl c3))] at hq
          simp only [n118, t118, ↓xh, ↓xst, ↓xrunE, ↓rG, rL, rSt, updA, List.elem_nil, List.elem_cons, Nat.reduceBEq, Bool.false_eq_true, if_false, if_true, true_and, and_true, true_or, or_true, not_false_eq_true, Nat.reduceAdd, Nat.reduceSub, Nat.reduceLeDiff, Nat.reduceEqDiff, Nat.reduceLT, ↓reduceIte, List.length_cons, List.length_nil, List.set_cons_zero, List.set_cons_succ, Nat.le_refl, Nat.zero_le, Nat.zero_sub, Nat.sub_zero, List.nil_append, List.cons_append, Option.toList_some, Option.toList_none, eq_self, p0, ↓rO1 h, ↓rB h, nIm8, nI_add, ik, c3]
          exact hq
        by_cases c4 : s.2 11 (8 * r + b) = 0
        · rw [if_pos (Or.inr (Or.inr (Or.inl c4)))] at hq
          simp only [n118, t118, ↓xh, ↓xst, ↓xrunE, ↓rG, rL, rSt, updA, List.elem_nil, List.elem_cons, Nat.reduceBEq, Bool.false_eq_true, if_false, if_true, true_and, and_true, true_or, or_true, not_false_eq_true, Nat.reduceAdd, Nat.reduceSub, Nat.reduceLeDiff, Nat.reduceEqDiff, Nat.reduceLT, ↓reduceIte, List.length_cons, List.length_nil, List.set_cons_zero, List.set_cons_succ, Nat.le_refl, Nat.zero_le, Nat.zero_sub, Nat.sub_zero, List.nil_append, List.cons_append, Option.toList_some, Option.toList_none, eq_self, p0, ↓rO1 h, ↓rB h, nIm8, nI_add, ik, c3, c4]
          exact hq
        simp only [n118, n113, t118, ↓xh, ↓xst, ↓xrunE, ↓rG, rL, rSt, updA, List.elem_nil, List.elem_cons, Nat.reduceBEq, Bool.false_eq_true, if_false, if_true, true_and, and_true, true_or, or_true, not_false_eq_true, Nat.reduceAdd, Nat.reduceSub, Nat.reduceLeDiff, Nat.reduceEqDiff, Nat.reduceLT, ↓reduceIte, List.length_cons, List.length_nil, List.set_cons_zero, List.set_cons_succ, Nat.le_refl, Nat.zero_le, Nat.zero_sub, Nat.sub_zero, List.nil_append, List.cons_append, Option.toList_some, Option.toList_none, eq_self, p0, ↓rO1 h, ↓rB h, nIm8, nI_add, ik, c3, c4]
        refine rc113 (a := b) (b := a) h hR hs hb ha hnx ?_
        refine XZ.runH 60 [] ?_
        by_cases c5 : rWay s R b a < 0
        · rw [if_pos (Or.inr (Or.inr (Or.inr c5)))] at hq
          simp only [n118, t118, ↓xh, ↓xst, ↓xrunE, ↓rG, rL, rSt, updA, List.elem_nil, List.elem_cons, Nat.reduceBEq, Bool.false_eq_true, if_false, if_true, true_and, and_true, true_or, or_true, not_false_eq_true, Nat.reduceAdd, Nat.reduceSub, Nat.reduceLeDiff, Nat.reduceEqDiff, Nat.reduceLT, ↓reduceIte, List.length_cons, List.length_nil, List.set_cons_zero, List.set_cons_succ, Nat.le_refl, Nat.zero_le, Nat.zero_sub, Nat.sub_zero, List.nil_append, List.cons_append, Option.toList_some, Option.toList_none, eq_self, lT c5]
          exact hq
        rw [if_neg (by simp only [p0, c3, c4, c5, or_self, not_false_iff])] at hq
        simp only [n118, n113, t118, ↓xh, ↓xst, ↓xrunE, ↓rG, rL, rSt, updA, List.elem_nil, List.elem_cons, Nat.reduceBEq, Bool.false_eq_true, if_false, if_true, true_and, and_true, true_or, or_true, not_false_eq_true, Nat.reduceAdd, Nat.reduceSub, Nat.reduceLeDiff, Nat.reduceEqDiff, Nat.reduceLT, ↓reduceIte, List.length_cons, List.length_nil, List.set_cons_zero, List.set_cons_succ, Nat.le_refl, Nat.zero_le, Nat.zero_sub, Nat.sub_zero, List.nil_append, List.cons_append, Option.toList_some, Option.toList_none, eq_self, lF c5, ↓rO1 h]
        refine rc113 (a := a) (b := b) h hR hs ha hb hnx ?_
        refine XZ.runH 60 [] ?_
        simp only [n118, t118, ↓xh, ↓xst, ↓xrunE, ↓rG, rL, rSt, updA, List.elem_nil, List.elem_cons, Nat.reduceBEq, Bool.false_eq_true, if_false, if_true, true_and, and_true, true_or, or_true, not_false_eq_true, Nat.reduceAdd, Nat.reduceSub, Nat.reduceLeDiff, Nat.reduceEqDiff, Nat.reduceLT, ↓reduceIte, List.length_cons, List.length_nil, List.set_cons_zero, List.set_cons_succ, Nat.le_refl, Nat.zero_le, Nat.zero_sub, Nat.sub_zero, List.nil_append, List.cons_append, Option.toList_some, Option.toList_none, eq_self]
        exact hq
set_option maxRecDepth 100000 in
set_option maxHeartbeats 4000000 in
theorem rc118 {E : xE} {M : xM} {m nx R Z a b : Nat} {p : Option Nat} {s : rS} {Q : Option Value → xM → Nat → Prop} (h : rRep M m s) (hl : rLt s) (hR : R ≤ 6) (hs : s.1 9 = nI R) (hZ : Z ≤ 32) (h4 : s.1 4 = nI Z) (ha : a < 8) (hb : b < 8) (hp : ∀ q, p = some q → q ≤ Z) (hnx : ∀ k, k < 48 → rRt (s.2 8 k)) (hq : Q (some (.int (rReach s R Z a b p))) M nx) : XC E 118 [.ref m, .int (nI a), .int (nI b), .int (rPa p)] M nx Q := by
  refine XC.run 60 [49] ?_
  rw [rReach] at hq
  cases p with
  | none =>
    simp only [n118, n127, t118, ↓xh, ↓xst, ↓xrunE, ↓rG, rL, rSt, updA, List.elem_nil, List.elem_cons, Nat.reduceBEq, Bool.false_eq_true, if_false, if_true, true_and, and_true, true_or, or_true, not_false_eq_true, Nat.reduceAdd, Nat.reduceSub, Nat.reduceLeDiff, Nat.reduceEqDiff, Nat.reduceLT, ↓reduceIte, List.length_cons, List.length_nil, List.set_cons_zero, List.set_cons_succ, Nat.le_refl, Nat.zero_le, Nat.zero_sub, Nat.sub_zero, List.nil_append, List.cons_append, Option.toList_some, Option.toList_none, eq_self, rPa, show ¬ (0 : Int32) ≤ -1 by decide, ↓rO1 h]
    refine rc127 h hl (by omega) (by omega) ?_
    refine XZ.runH 60 [49] ?_
    simp only [n118, t118, ↓xh, ↓xst, ↓xrunE, ↓rG, rL, rSt, updA, List.elem_nil, List.elem_cons, Nat.reduceBEq, Bool.false_eq_true, if_false, if_true, true_and, and_true, true_or, or_true, not_false_eq_true, Nat.reduceAdd, Nat.reduceSub, Nat.reduceLeDiff, Nat.reduceEqDiff, Nat.reduceLT, ↓reduceIte, List.length_cons, List.length_nil, List.set_cons_zero, List.set_cons_succ, Nat.le_refl, Nat.zero_le, Nat.zero_sub, Nat.sub_zero, List.nil_append, List.cons_append, Option.toList_some, Option.toList_none, eq_self]
    exact rm118 (v := rSame s b a) h hR hs ha hb hnx hq
  | some q =>
    have hqZ := hp q rfl
    obtain ⟨hL, eL⟩ := hl.1 b (by omega)
    have z0 := lF (nI_pos (show q < 2 ^ 31 by omega))
    have s1 := nI_subn Z q hqZ
    rw [rZm] at hq
    by_cases c1 : rLn s b = Z - q
    · simp only [n118, n128, t118, ↓xh, ↓xst, ↓xrunE, ↓rG, rL, rSt, updA, List.elem_nil, List.elem_cons, Nat.reduceBEq, Bool.false_eq_true, if_false, if_true, true_and, and_true, true_or, or_true, not_false_eq_true, Nat.reduceAdd, Nat.reduceSub, Nat.reduceLeDiff, Nat.reduceEqDiff, Nat.reduceLT, ↓reduceIte, List.length_cons, List.length_nil, List.set_cons_zero, List.set_cons_succ, Nat.le_refl, Nat.zero_le, Nat.zero_sub, Nat.sub_zero, List.nil_append, List.cons_append, Option.toList_some, Option.toList_none, eq_self, rPa, z0, ↓rO1 h, ↓rB h, nIx (show b < 40 by omega), h4, eL, s1, c1]
      refine rc128 (o := 0) h hl (by omega) (by omega) (by omega) (by omega) ?_
      refine XZ.runH 60 [49] ?_
      by_cases c2 : rStands s b 0 q Z = true
      · simp only [n118, t118, ↓xh, ↓xst, ↓xrunE, ↓rG, rL, rSt, updA, List.elem_nil, List.elem_cons, Nat.reduceBEq, Bool.false_eq_true, if_false, if_true, true_and, and_true, true_or, or_true, not_false_eq_true, Nat.reduceAdd, Nat.reduceSub, Nat.reduceLeDiff, Nat.reduceEqDiff, Nat.reduceLT, ↓reduceIte, List.length_cons, List.length_nil, List.set_cons_zero, List.set_cons_succ, Nat.le_refl, Nat.zero_le, Nat.zero_sub, Nat.sub_zero, List.nil_append, List.cons_append, Option.toList_some, Option.toList_none, eq_self, c2, show ¬ (1 : Int32) = 0 by decide]
        exact rm118 (v := true) h hR hs ha hb hnx (by simpa [c1, c2] using hq)
      · simp only [n118, t118, ↓xh, ↓xst, ↓xrunE, ↓rG, rL, rSt, updA, List.elem_nil, List.elem_cons, Nat.reduceBEq, Bool.false_eq_true, if_false, if_true, true_and, and_true, true_or, or_true, not_false_eq_true, Nat.reduceAdd, Nat.reduceSub, Nat.reduceLeDiff, Nat.reduceEqDiff, Nat.reduceLT, ↓reduceIte, List.length_cons, List.length_nil, List.set_cons_zero, List.set_cons_succ, Nat.le_refl, Nat.zero_le, Nat.zero_sub, Nat.sub_zero, List.nil_append, List.cons_append, Option.toList_some, Option.toList_none, eq_self, c2]
        exact rm118 (v := false) h hR hs ha hb hnx (by simpa [c1, c2] using hq)
    · have n1 : ¬ nI (rLn s b) = nI (Z - q) := fun z => c1 (nI_inj (by omega) (by omega) z)
      simp only [n118, t118, ↓xh, ↓xst, ↓xrunE, ↓rG, rL, rSt, updA, List.elem_nil, List.elem_cons, Nat.reduceBEq, Bool.false_eq_true, if_false, if_true, true_and, and_true, true_or, or_true, not_false_eq_true, Nat.reduceAdd, Nat.reduceSub, Nat.reduceLeDiff, Nat.reduceEqDiff, Nat.reduceLT, ↓reduceIte, List.length_cons, List.length_nil, List.set_cons_zero, List.set_cons_succ, Nat.le_refl, Nat.zero_le, Nat.zero_sub, Nat.sub_zero, List.nil_append, List.cons_append, Option.toList_some, Option.toList_none, eq_self, rPa, z0, ↓rO1 h, ↓rB h, nIx (show b < 40 by omega), h4, eL, s1, n1]
      exact rm118 (v := false) h hR hs ha hb hnx (by simpa [c1] using hq)
/-- a network -/
def rNet (s : rS) (N Z : Nat) : Int32 × rS := if rNm s 0 Z = true ∧ N < 8 then (nI N, (upd (upd s.1 7 (nI (N + 1))) 4 0, (rKeep s N 0 Z).2)) else (-1, (upd s.1 4 0, s.2))
set_option maxRecDepth 100000 in
set_option maxHeartbeats 4000000 in
theorem rc81 {E : xE} {M0 M : xM} {m nx N Z : Nat} {s : rS} {Q : Option Value → xM → Nat → Prop} (hb : xb E ≤ m) (h : rR M0 M m s) (hl : rLt s) (hN : N ≤ 8) (h7 : s.1 7 = nI N) (hZ : Z ≤ 32) (h4 : s.1 4 = nI Z) (hq : ∀ M', rR M0 M' m (rNet s N Z).2 → Q (some (.int (rNet s N Z).1)) M' nx) : XC E 81 [.ref m] M nx Q := by
  rw [rNet] at hq
  have fin : ∀ x s1 M1, (∀ M', rR M0 M' m (upd s1.1 4 0, s1.2) → Q (some (.int x)) M' nx) → rR M0 M1 m s1 → XZ E 81 (xZ E 81 Q) 51 [some (.ref m), some (.int x)] [] M1 nx 0 0 := by
    intro x s1 M1 kq h1
    refine XZ.runH 60 [51, 56] ?_
    simp only [n81, t81, ↓xh, ↓xst, ↓xrunE, ↓rG, rL, rSt, updA, List.elem_nil, List.elem_cons, Nat.reduceBEq, Bool.false_eq_true, if_false, if_true, true_and, and_true, true_or, or_true, not_false_eq_true, Nat.reduceAdd, Nat.reduceSub, Nat.reduceLeDiff, Nat.reduceEqDiff, Nat.reduceLT, ↓reduceIte, List.length_cons, List.length_nil, List.set_cons_zero, List.set_cons_succ, Nat.le_refl, Nat.zero_le, Nat.zero_sub, Nat.sub_zero, List.nil_append, List.cons_append, Option.toList_some, Option.toList_none, eq_self, ↓rO1 h1.1, hb]
    refine XZ.abs h1.fl (fun M2 h2 => ?_)
    refine XZ.runH 60 [] ?_
    simp only [n81, t81, ↓xh, ↓xst, ↓xrunE, ↓rG, rL, rSt, updA, List.elem_nil, List.elem_cons, Nat.reduceBEq, Bool.false_eq_true, if_false, if_true, true_and, and_true, true_or, or_true, not_false_eq_true, Nat.reduceAdd, Nat.reduceSub, Nat.reduceLeDiff, Nat.reduceEqDiff, Nat.reduceLT, ↓reduceIte, List.length_cons, List.length_nil, List.set_cons_zero, List.set_cons_succ, Nat.le_refl, Nat.zero_le, Nat.zero_sub, Nat.sub_zero, List.nil_append, List.cons_append, Option.toList_some, Option.toList_none, eq_self]
    exact kq M2 h2
  refine XC.run 60 [51, 56] ?_
  simp only [n81, n100, t81, ↓xh, ↓xst, ↓xrunE, ↓rG, rL, rSt, updA, List.elem_nil, List.elem_cons, Nat.reduceBEq, Bool.false_eq_true, if_false, if_true, true_and, and_true, true_or, or_true, not_false_eq_true, Nat.reduceAdd, Nat.reduceSub, Nat.reduceLeDiff, Nat.reduceEqDiff, Nat.reduceLT, ↓reduceIte, List.length_cons, List.length_nil, List.set_cons_zero, List.set_cons_succ, Nat.le_refl, Nat.zero_le, Nat.zero_sub, Nat.sub_zero, List.nil_append, List.cons_append, Option.toList_some, Option.toList_none, eq_self, ↓rO1 h.1, h4]
  refine rc100 (a := 0) h.1 hZ (by omega) ?_
  refine XZ.runH 60 [51, 56] ?_
  by_cases c1 : rNm s 0 Z = true
  rotate_left
  · simp only [n81, t81, ↓xh, ↓xst, ↓xrunE, ↓rG, rL, rSt, updA, List.elem_nil, List.elem_cons, Nat.reduceBEq, Bool.false_eq_true, if_false, if_true, true_and, and_true, true_or, or_true, not_false_eq_true, Nat.reduceAdd, Nat.reduceSub, Nat.reduceLeDiff, Nat.reduceEqDiff, Nat.reduceLT, ↓reduceIte, List.length_cons, List.length_nil, List.set_cons_zero, List.set_cons_succ, Nat.le_refl, Nat.zero_le, Nat.zero_sub, Nat.sub_zero, List.nil_append, List.cons_append, Option.toList_some, Option.toList_none, eq_self, c1]
    rw [if_neg (fun z => c1 z.1)] at hq
    exact fin _ s M hq h
  by_cases c2 : N < 8
  rotate_left
  · obtain rfl : N = 8 := by omega
    simp only [n81, t81, ↓xh, ↓xst, ↓xrunE, ↓rG, rL, rSt, updA, List.elem_nil, List.elem_cons, Nat.reduceBEq, Bool.false_eq_true, if_false, if_true, true_and, and_true, true_or, or_true, not_false_eq_true, Nat.reduceAdd, Nat.reduceSub, Nat.reduceLeDiff, Nat.reduceEqDiff, Nat.reduceLT, ↓reduceIte, List.length_cons, List.length_nil, List.set_cons_zero, List.set_cons_succ, Nat.le_refl, Nat.zero_le, Nat.zero_sub, Nat.sub_zero, List.nil_append, List.cons_append, Option.toList_some, Option.toList_none, eq_self, c1, show ¬ (1 : Int32) = 0 by decide, ↓rO1 h.1, h7, show (8 : Int32) ≤ nI 8 by decide]
    rw [if_neg (fun z => c2 z.2)] at hq
    exact fin _ s M hq h
  have g : ¬ (8 : Int32) ≤ nI N := nI_ge c2 (by decide)
  simp only [n81, n101, t81, ↓xh, ↓xst, ↓xrunE, ↓rG, rL, rSt, updA, List.elem_nil, List.elem_cons, Nat.reduceBEq, Bool.false_eq_true, if_false, if_true, true_and, and_true, true_or, or_true, not_false_eq_true, Nat.reduceAdd, Nat.reduceSub, Nat.reduceLeDiff, Nat.reduceEqDiff, Nat.reduceLT, ↓reduceIte, List.length_cons, List.length_nil, List.set_cons_zero, List.set_cons_succ, Nat.le_refl, Nat.zero_le, Nat.zero_sub, Nat.sub_zero, List.nil_append, List.cons_append, Option.toList_some, Option.toList_none, eq_self, c1, show ¬ (1 : Int32) = 0 by decide, ↓rO1 h.1, h7, h4, g]
  rw [if_pos ⟨c1, c2⟩] at hq
  have := @rc101 E M0 M m nx N 0 Z s
  rw [Nat.zero_add] at this
  refine this hb h (by omega) hZ (fun k hk => hl.2.2 k (by omega)) (fun M1 h1 => ?_)
  refine XZ.runH 60 [51, 56] ?_
  have e7 : (rKeep s N 0 Z).1 7 = nI N := h7
  simp only [n81, t81, ↓xh, ↓xst, ↓xrunE, ↓rG, rL, rSt, updA, List.elem_nil, List.elem_cons, Nat.reduceBEq, Bool.false_eq_true, if_false, if_true, true_and, and_true, true_or, or_true, not_false_eq_true, Nat.reduceAdd, Nat.reduceSub, Nat.reduceLeDiff, Nat.reduceEqDiff, Nat.reduceLT, ↓reduceIte, List.length_cons, List.length_nil, List.set_cons_zero, List.set_cons_succ, Nat.le_refl, Nat.zero_le, Nat.zero_sub, Nat.sub_zero, List.nil_append, List.cons_append, Option.toList_some, Option.toList_none, eq_self, ↓rO1 h1.1, e7, nI_1, hb]
  refine XZ.abs h1.fl (fun M2 h2 => ?_)
  exact fin _ _ M2 hq h2
