set_option maxRecDepth 100000 in
set_option maxHeartbeats 4000000 in
theorem rc99 {E : xE} {M : xM} {m nx : Nat} {s : rS} {Q : Option Value → xM → Nat → Prop} (h : rRep M m s) (hq : Q (some (.int (s.1 48))) M nx) : XC E 99 [.ref m] M nx Q := by
  refine XC.run 20 [] ?_
  simp only [n99, t99, ↓xh, ↓xst, ↓xrunE, ↓rG, rL, rSt, updA, List.elem_nil, List.elem_cons, Nat.reduceBEq, Bool.false_eq_true, if_false, if_true, true_and, and_true, true_or, or_true, not_false_eq_true, Nat.reduceAdd, Nat.reduceSub, Nat.reduceLeDiff, Nat.reduceEqDiff, Nat.reduceLT, ↓reduceIte, List.length_cons, List.length_nil, List.set_cons_zero, List.set_cons_succ, Nat.le_refl, Nat.zero_le, Nat.zero_sub, Nat.sub_zero, List.nil_append, List.cons_append, Option.toList_some, Option.toList_none, eq_self, rO1 h]
  exact hq
set_option maxRecDepth 100000 in
set_option maxHeartbeats 4000000 in
theorem rc98 {E : xE} {M0 M : xM} {m nx : Nat} {s : rS} {x : Int32} {Q : Option Value → xM → Nat → Prop} (hb : xb E ≤ m) (h : rR M0 M m s) (hq : ∀ M', rR M0 M' m (upd s.1 47 x, s.2) → Q none M' nx) : XC E 98 [.ref m, .int x] M nx Q := by
  refine XC.run 20 [] ?_
  simp only [n98, t98, ↓xh, ↓xst, ↓xrunE, ↓rG, rL, rSt, updA, List.elem_nil, List.elem_cons, Nat.reduceBEq, Bool.false_eq_true, if_false, if_true, true_and, and_true, true_or, or_true, not_false_eq_true, Nat.reduceAdd, Nat.reduceSub, Nat.reduceLeDiff, Nat.reduceEqDiff, Nat.reduceLT, ↓reduceIte, List.length_cons, List.length_nil, List.set_cons_zero, List.set_cons_succ, Nat.le_refl, Nat.zero_le, Nat.zero_sub, Nat.sub_zero, List.nil_append, List.cons_append, Option.toList_some, Option.toList_none, eq_self, ↓rO1 h.1, hb]
  exact hq _ h.fl
set_option maxRecDepth 100000 in
set_option maxHeartbeats 4000000 in
theorem rc114 {E : xE} {M : xM} {m nx : Nat} {s : rS} {x : Int32} {Q : Option Value → xM → Nat → Prop} (h : rRep M m s) (hq : Q (some (.int (if x < 0 ∨ s.1 34 ≤ x then 0 else 1))) M nx) : XC E 114 [.ref m, .int x] M nx Q := by
  refine XC.run 20 [] ?_
  simp only [n114, t114, ↓xh, ↓xst, ↓xrunE, ↓rG, rL, rSt, updA, List.elem_nil, List.elem_cons, Nat.reduceBEq, Bool.false_eq_true, if_false, if_true, true_and, and_true, true_or, or_true, not_false_eq_true, Nat.reduceAdd, Nat.reduceSub, Nat.reduceLeDiff, Nat.reduceEqDiff, Nat.reduceLT, ↓reduceIte, List.length_cons, List.length_nil, List.set_cons_zero, List.set_cons_succ, Nat.le_refl, Nat.zero_le, Nat.zero_sub, Nat.sub_zero, List.nil_append, List.cons_append, Option.toList_some, Option.toList_none, eq_self, rO1 h]
  by_cases c : x < 0
  · simpa [c] using hq
  · by_cases d : s.1 34 ≤ x <;> simpa [c, d] using hq
def rStatus (s : rS) (x : Int32) : Int32 := if x < 0 ∨ s.1 34 ≤ x then -1 else s.2 31 x.toNatClampNeg + (if s.2 28 x.toNatClampNeg = 0 then 0 else 4)
set_option maxRecDepth 100000 in
set_option maxHeartbeats 4000000 in
theorem rc94 {E : xE} {M : xM} {m nx X : Nat} {s : rS} {x : Int32} {Q : Option Value → xM → Nat → Prop} (h : rRep M m s) (hX : X ≤ 12) (hs : s.1 34 = nI X) (hq : Q (some (.int (rStatus s x))) M nx) : XC E 94 [.ref m, .int x] M nx Q := by
  refine XC.run 20 [] ?_
  simp only [n94, n114, t94, ↓xh, ↓xst, ↓xrunE, ↓rG, rL, rSt, updA, List.elem_nil, List.elem_cons, Nat.reduceBEq, Bool.false_eq_true, if_false, if_true, true_and, and_true, true_or, or_true, not_false_eq_true, Nat.reduceAdd, Nat.reduceSub, Nat.reduceLeDiff, Nat.reduceEqDiff, Nat.reduceLT, ↓reduceIte, List.length_cons, List.length_nil, List.set_cons_zero, List.set_cons_succ, Nat.le_refl, Nat.zero_le, Nat.zero_sub, Nat.sub_zero, List.nil_append, List.cons_append, Option.toList_some, Option.toList_none, eq_self, rO1 h]
  refine rc114 h ?_
  by_cases c : x < 0 ∨ s.1 34 ≤ x
  · refine XZ.run 20 [] ?_
    simp only [n94, t94, ↓xh, ↓xst, ↓xrunE, ↓rG, rL, rSt, updA, List.elem_nil, List.elem_cons, Nat.reduceBEq, Bool.false_eq_true, if_false, if_true, true_and, and_true, true_or, or_true, not_false_eq_true, Nat.reduceAdd, Nat.reduceSub, Nat.reduceLeDiff, Nat.reduceEqDiff, Nat.reduceLT, ↓reduceIte, List.length_cons, List.length_nil, List.set_cons_zero, List.set_cons_succ, Nat.le_refl, Nat.zero_le, Nat.zero_sub, Nat.sub_zero, List.nil_append, List.cons_append, Option.toList_some, Option.toList_none, eq_self, c]
    simpa [rStatus, c] using hq
  · obtain ⟨j, hj, rfl⟩ := nIv (X := X) (fun z => c (Or.inl z)) (fun z => c (Or.inr (by rw [hs]; exact z))) (by omega)
    rw [if_neg c]
    refine XZ.run 20 [] ?_
    simp only [n94, t94, ↓xh, ↓xst, ↓xrunE, ↓rG, rL, rSt, updA, List.elem_nil, List.elem_cons, Nat.reduceBEq, Bool.false_eq_true, if_false, if_true, true_and, and_true, true_or, or_true, not_false_eq_true, Nat.reduceAdd, Nat.reduceSub, Nat.reduceLeDiff, Nat.reduceEqDiff, Nat.reduceLT, ↓reduceIte, List.length_cons, List.length_nil, List.set_cons_zero, List.set_cons_succ, Nat.le_refl, Nat.zero_le, Nat.zero_sub, Nat.sub_zero, List.nil_append, List.cons_append, Option.toList_some, Option.toList_none, eq_self, ↓rO1 h, ↓rB h, nIx (show j < 12 by omega), show ¬ (1 : Int32) = 0 by decide]
    rw [rStatus, if_neg c, nI_clamp (by omega)] at hq
    by_cases d : s.2 28 j = 0 <;> simpa [d] using hq
def rReply (s : rS) (x : Int32) : Int32 := if x < 0 ∨ s.1 34 ≤ x then 0 else s.2 37 x.toNatClampNeg
set_option maxRecDepth 100000 in
set_option maxHeartbeats 4000000 in
theorem rc95 {E : xE} {M : xM} {m nx X : Nat} {s : rS} {x : Int32} {Q : Option Value → xM → Nat → Prop} (h : rRep M m s) (hX : X ≤ 12) (hs : s.1 34 = nI X) (hq : Q (some (.int (rReply s x))) M nx) : XC E 95 [.ref m, .int x] M nx Q := by
  refine XC.run 20 [] ?_
  simp only [n95, n114, t95, ↓xh, ↓xst, ↓xrunE, ↓rG, rL, rSt, updA, List.elem_nil, List.elem_cons, Nat.reduceBEq, Bool.false_eq_true, if_false, if_true, true_and, and_true, true_or, or_true, not_false_eq_true, Nat.reduceAdd, Nat.reduceSub, Nat.reduceLeDiff, Nat.reduceEqDiff, Nat.reduceLT, ↓reduceIte, List.length_cons, List.length_nil, List.set_cons_zero, List.set_cons_succ, Nat.le_refl, Nat.zero_le, Nat.zero_sub, Nat.sub_zero, List.nil_append, List.cons_append, Option.toList_some, Option.toList_none, eq_self, rO1 h]
  refine rc114 h ?_
  by_cases c : x < 0 ∨ s.1 34 ≤ x
  · refine XZ.run 20 [] ?_
    simp only [n95, t95, ↓xh, ↓xst, ↓xrunE, ↓rG, rL, rSt, updA, List.elem_nil, List.elem_cons, Nat.reduceBEq, Bool.false_eq_true, if_false, if_true, true_and, and_true, true_or, or_true, not_false_eq_true, Nat.reduceAdd, Nat.reduceSub, Nat.reduceLeDiff, Nat.reduceEqDiff, Nat.reduceLT, ↓reduceIte, List.length_cons, List.length_nil, List.set_cons_zero, List.set_cons_succ, Nat.le_refl, Nat.zero_le, Nat.zero_sub, Nat.sub_zero, List.nil_append, List.cons_append, Option.toList_some, Option.toList_none, eq_self, c]
    simpa [rReply, c] using hq
  · obtain ⟨j, hj, rfl⟩ := nIv (X := X) (fun z => c (Or.inl z)) (fun z => c (Or.inr (by rw [hs]; exact z))) (by omega)
    rw [if_neg c]
    refine XZ.run 20 [] ?_
    simp only [n95, t95, ↓xh, ↓xst, ↓xrunE, ↓rG, rL, rSt, updA, List.elem_nil, List.elem_cons, Nat.reduceBEq, Bool.false_eq_true, if_false, if_true, true_and, and_true, true_or, or_true, not_false_eq_true, Nat.reduceAdd, Nat.reduceSub, Nat.reduceLeDiff, Nat.reduceEqDiff, Nat.reduceLT, ↓reduceIte, List.length_cons, List.length_nil, List.set_cons_zero, List.set_cons_succ, Nat.le_refl, Nat.zero_le, Nat.zero_sub, Nat.sub_zero, List.nil_append, List.cons_append, Option.toList_some, Option.toList_none, eq_self, ↓rO1 h, ↓rB h, nIx (show j < 12 by omega), show ¬ (1 : Int32) = 0 by decide]
    rw [rReply, if_neg c, nI_clamp (by omega)] at hq
    exact hq
def rMissing (s : rS) (x : Int32) : Int32 := if x < 0 ∨ s.1 34 ≤ x then -1 else s.2 34 x.toNatClampNeg
set_option maxRecDepth 100000 in
set_option maxHeartbeats 4000000 in
theorem rc96 {E : xE} {M : xM} {m nx X : Nat} {s : rS} {x : Int32} {Q : Option Value → xM → Nat → Prop} (h : rRep M m s) (hX : X ≤ 12) (hs : s.1 34 = nI X) (hq : Q (some (.int (rMissing s x))) M nx) : XC E 96 [.ref m, .int x] M nx Q := by
  refine XC.run 20 [] ?_
  simp only [n96, n114, t96, ↓xh, ↓xst, ↓xrunE, ↓rG, rL, rSt, updA, List.elem_nil, List.elem_cons, Nat.reduceBEq, Bool.false_eq_true, if_false, if_true, true_and, and_true, true_or, or_true, not_false_eq_true, Nat.reduceAdd, Nat.reduceSub, Nat.reduceLeDiff, Nat.reduceEqDiff, Nat.reduceLT, ↓reduceIte, List.length_cons, List.length_nil, List.set_cons_zero, List.set_cons_succ, Nat.le_refl, Nat.zero_le, Nat.zero_sub, Nat.sub_zero, List.nil_append, List.cons_append, Option.toList_some, Option.toList_none, eq_self, rO1 h]
  refine rc114 h ?_
  by_cases c : x < 0 ∨ s.1 34 ≤ x
  · refine XZ.run 20 [] ?_
    simp only [n96, t96, ↓xh, ↓xst, ↓xrunE, ↓rG, rL, rSt, updA, List.elem_nil, List.elem_cons, Nat.reduceBEq, Bool.false_eq_true, if_false, if_true, true_and, and_true, true_or, or_true, not_false_eq_true, Nat.reduceAdd, Nat.reduceSub, Nat.reduceLeDiff, Nat.reduceEqDiff, Nat.reduceLT, ↓reduceIte, List.length_cons, List.length_nil, List.set_cons_zero, List.set_cons_succ, Nat.le_refl, Nat.zero_le, Nat.zero_sub, Nat.sub_zero, List.nil_append, List.cons_append, Option.toList_some, Option.toList_none, eq_self, c]
    simpa [rMissing, c] using hq
  · obtain ⟨j, hj, rfl⟩ := nIv (X := X) (fun z => c (Or.inl z)) (fun z => c (Or.inr (by rw [hs]; exact z))) (by omega)
    rw [if_neg c]
    refine XZ.run 20 [] ?_
    simp only [n96, t96, ↓xh, ↓xst, ↓xrunE, ↓rG, rL, rSt, updA, List.elem_nil, List.elem_cons, Nat.reduceBEq, Bool.false_eq_true, if_false, if_true, true_and, and_true, true_or, or_true, not_false_eq_true, Nat.reduceAdd, Nat.reduceSub, Nat.reduceLeDiff, Nat.reduceEqDiff, Nat.reduceLT, ↓reduceIte, List.length_cons, List.length_nil, List.set_cons_zero, List.set_cons_succ, Nat.le_refl, Nat.zero_le, Nat.zero_sub, Nat.sub_zero, List.nil_append, List.cons_append, Option.toList_some, Option.toList_none, eq_self, ↓rO1 h, ↓rB h, nIx (show j < 12 by omega), show ¬ (1 : Int32) = 0 by decide]
    rw [rMissing, if_neg c, nI_clamp (by omega)] at hq
    exact hq
def rFound (s : rS) (x : Int32) : Int32 := if x < 0 ∨ s.1 33 ≤ x then -1 else s.2 25 x.toNatClampNeg
set_option maxRecDepth 100000 in
set_option maxHeartbeats 4000000 in
theorem rc88 {E : xE} {M : xM} {m nx X : Nat} {s : rS} {x : Int32} {Q : Option Value → xM → Nat → Prop} (h : rRep M m s) (hX : X ≤ 16) (hs : s.1 33 = nI X) (hq : Q (some (.int (rFound s x))) M nx) : XC E 88 [.ref m, .int x] M nx Q := by
  refine XC.run 20 [] ?_
  by_cases c : x < 0
  · simp only [n88, t88, ↓xh, ↓xst, ↓xrunE, ↓rG, rL, rSt, updA, List.elem_nil, List.elem_cons, Nat.reduceBEq, Bool.false_eq_true, if_false, if_true, true_and, and_true, true_or, or_true, not_false_eq_true, Nat.reduceAdd, Nat.reduceSub, Nat.reduceLeDiff, Nat.reduceEqDiff, Nat.reduceLT, ↓reduceIte, List.length_cons, List.length_nil, List.set_cons_zero, List.set_cons_succ, Nat.le_refl, Nat.zero_le, Nat.zero_sub, Nat.sub_zero, List.nil_append, List.cons_append, Option.toList_some, Option.toList_none, eq_self, ↓rO1 h, c]
    simpa [rFound, c] using hq
  · by_cases d : s.1 33 ≤ x
    · simp only [n88, t88, ↓xh, ↓xst, ↓xrunE, ↓rG, rL, rSt, updA, List.elem_nil, List.elem_cons, Nat.reduceBEq, Bool.false_eq_true, if_false, if_true, true_and, and_true, true_or, or_true, not_false_eq_true, Nat.reduceAdd, Nat.reduceSub, Nat.reduceLeDiff, Nat.reduceEqDiff, Nat.reduceLT, ↓reduceIte, List.length_cons, List.length_nil, List.set_cons_zero, List.set_cons_succ, Nat.le_refl, Nat.zero_le, Nat.zero_sub, Nat.sub_zero, List.nil_append, List.cons_append, Option.toList_some, Option.toList_none, eq_self, ↓rO1 h, c, d]
      simpa [rFound, c, d] using hq
    · obtain ⟨j, hj, rfl⟩ := nIv (X := X) c (by rw [← hs]; exact d) (by omega)
      simp only [n88, t88, ↓xh, ↓xst, ↓xrunE, ↓rG, rL, rSt, updA, List.elem_nil, List.elem_cons, Nat.reduceBEq, Bool.false_eq_true, if_false, if_true, true_and, and_true, true_or, or_true, not_false_eq_true, Nat.reduceAdd, Nat.reduceSub, Nat.reduceLeDiff, Nat.reduceEqDiff, Nat.reduceLT, ↓reduceIte, List.length_cons, List.length_nil, List.set_cons_zero, List.set_cons_succ, Nat.le_refl, Nat.zero_le, Nat.zero_sub, Nat.sub_zero, List.nil_append, List.cons_append, Option.toList_some, Option.toList_none, eq_self, ↓rO1 h, ↓rB h, c, d, nIx (show j < 16 by omega)]
      rw [rFound, if_neg (by simp [c, d]), nI_clamp (by omega)] at hq
      exact hq
def rHas (s : rS) (r n : Nat) : Bool := decide ((s.2 5 r >>> (nI n &&& 31)) &&& 1 = 1)
set_option maxRecDepth 100000 in
set_option maxHeartbeats 4000000 in
theorem rc116 {E : xE} {M : xM} {m nx r n : Nat} {s : rS} {Q : Option Value → xM → Nat → Prop} (h : rRep M m s) (hr : r < 6) (hq : Q (some (.int (if rHas s r n then 1 else 0))) M nx) : XC E 116 [.ref m, .int (nI r), .int (nI n)] M nx Q := by
  refine XC.run 20 [] ?_
  simp only [n116, t116, ↓xh, ↓xst, ↓xrunE, ↓rG, rL, rSt, updA, List.elem_nil, List.elem_cons, Nat.reduceBEq, Bool.false_eq_true, if_false, if_true, true_and, and_true, true_or, or_true, not_false_eq_true, Nat.reduceAdd, Nat.reduceSub, Nat.reduceLeDiff, Nat.reduceEqDiff, Nat.reduceLT, ↓reduceIte, List.length_cons, List.length_nil, List.set_cons_zero, List.set_cons_succ, Nat.le_refl, Nat.zero_le, Nat.zero_sub, Nat.sub_zero, List.nil_append, List.cons_append, Option.toList_some, Option.toList_none, eq_self, ↓rO1 h, ↓rB h, nIx hr]
  unfold rHas at hq
  by_cases c : (s.2 5 r >>> (nI n &&& 31)) &&& 1 = 1
  · simpa [c] using hq
  · simpa [c] using hq
/-- the first router of a network: k routers are left, from r on -/
def rFst (s : rS) (n : Nat) : Nat → Nat → Int32
  | 0, _ => -1
  | k + 1, r => if ¬ s.2 6 r = 0 ∧ rHas s r n = true then nI r else rFst s n k (r + 1)
set_option maxRecDepth 100000 in
set_option maxHeartbeats 4000000 in
theorem rl125 {E : xE} {M : xM} {m nx n R : Nat} {s : rS} {Q : Option Value → xM → Nat → Prop} (h : rRep M m s) (hR : R ≤ 6) (hs : s.1 9 = nI R) : ∀ k r, r + k = R → Q (some (.int (rFst s n k r))) M nx →
    XZ E 125 (xZ E 125 Q) 2 [some (.ref m), some (.int (nI n)), some (.int (nI r))] [] M nx 0 0 := by
  intro k
  induction k with
  | zero =>
    intro r hr hq
    obtain rfl : r = R := by omega
    have hc := nI_le (Nat.le_refl r) (show r < 2 ^ 31 by omega)
    refine XZ.runH 20 [2] ?_
    simp only [n125, t125, ↓xh, ↓xst, ↓xrunE, ↓rG, rL, rSt, updA, List.elem_nil, List.elem_cons, Nat.reduceBEq, Bool.false_eq_true, if_false, if_true, true_and, and_true, true_or, or_true, not_false_eq_true, Nat.reduceAdd, Nat.reduceSub, Nat.reduceLeDiff, Nat.reduceEqDiff, Nat.reduceLT, ↓reduceIte, List.length_cons, List.length_nil, List.set_cons_zero, List.set_cons_succ, Nat.le_refl, Nat.zero_le, Nat.zero_sub, Nat.sub_zero, List.nil_append, List.cons_append, Option.toList_some, Option.toList_none, eq_self, ↓rO1 h, hs, hc]
    exact hq
  | succ k ih =>
    intro r hr hq
    have hc := nI_ge (show r < R by omega) (show R < 2 ^ 31 by omega)
    refine XZ.runH 20 [2] ?_
    simp only [n125, n116, t125, ↓xh, ↓xst, ↓xrunE, ↓rG, rL, rSt, updA, List.elem_nil, List.elem_cons, Nat.reduceBEq, Bool.false_eq_true, if_false, if_true, true_and, and_true, true_or, or_true, not_false_eq_true, Nat.reduceAdd, Nat.reduceSub, Nat.reduceLeDiff, Nat.reduceEqDiff, Nat.reduceLT, ↓reduceIte, List.length_cons, List.length_nil, List.set_cons_zero, List.set_cons_succ, Nat.le_refl, Nat.zero_le, Nat.zero_sub, Nat.sub_zero, List.nil_append, List.cons_append, Option.toList_some, Option.toList_none, eq_self, ↓rO1 h, ↓rB h, hs, hc, nIx (show r < 6 by omega), nI_1]
    by_cases c : s.2 6 r = 0
    · simp only [c, if_true]
      exact ih (r + 1) (by omega) (by simpa [rFst, c] using hq)
    · simp only [c, if_false]
      refine rc116 h (by omega) ?_
      refine XZ.run 20 [2] ?_
      by_cases d : rHas s r n = true
      · simp only [n125, t125, ↓xh, ↓xst, ↓xrunE, ↓rG, rL, rSt, updA, List.elem_nil, List.elem_cons, Nat.reduceBEq, Bool.false_eq_true, if_false, if_true, true_and, and_true, true_or, or_true, not_false_eq_true, Nat.reduceAdd, Nat.reduceSub, Nat.reduceLeDiff, Nat.reduceEqDiff, Nat.reduceLT, ↓reduceIte, List.length_cons, List.length_nil, List.set_cons_zero, List.set_cons_succ, Nat.le_refl, Nat.zero_le, Nat.zero_sub, Nat.sub_zero, List.nil_append, List.cons_append, Option.toList_some, Option.toList_none, eq_self, d, show ¬ (1 : Int32) = 0 by decide, nI_1]
        simpa [rFst, c, d] using hq
      · simp only [n125, t125, ↓xh, ↓xst, ↓xrunE, ↓rG, rL, rSt, updA, List.elem_nil, List.elem_cons, Nat.reduceBEq, Bool.false_eq_true, if_false, if_true, true_and, and_true, true_or, or_true, not_false_eq_true, Nat.reduceAdd, Nat.reduceSub, Nat.reduceLeDiff, Nat.reduceEqDiff, Nat.reduceLT, ↓reduceIte, List.length_cons, List.length_nil, List.set_cons_zero, List.set_cons_succ, Nat.le_refl, Nat.zero_le, Nat.zero_sub, Nat.sub_zero, List.nil_append, List.cons_append, Option.toList_some, Option.toList_none, eq_self, d, nI_1]
        exact ih (r + 1) (by omega) (by simpa [rFst, c, d] using hq)
set_option maxRecDepth 100000 in
set_option maxHeartbeats 4000000 in
theorem rc125 {E : xE} {M : xM} {m nx n R : Nat} {s : rS} {Q : Option Value → xM → Nat → Prop} (h : rRep M m s) (hR : R ≤ 6) (hs : s.1 9 = nI R) (hq : Q (some (.int (rFst s n R 0))) M nx) : XC E 125 [.ref m, .int (nI n)] M nx Q := by
  refine XC.run 20 [2] ?_
  simp only [n125, t125, ↓xh, ↓xst, ↓xrunE, ↓rG, rL, rSt, updA, List.elem_nil, List.elem_cons, Nat.reduceBEq, Bool.false_eq_true, if_false, if_true, true_and, and_true, true_or, or_true, not_false_eq_true, Nat.reduceAdd, Nat.reduceSub, Nat.reduceLeDiff, Nat.reduceEqDiff, Nat.reduceLT, ↓reduceIte, List.length_cons, List.length_nil, List.set_cons_zero, List.set_cons_succ, Nat.le_refl, Nat.zero_le, Nat.zero_sub, Nat.sub_zero, List.nil_append, List.cons_append, Option.toList_some, Option.toList_none, eq_self]
  exact rl125 h hR hs R 0 (by omega) hq
/-- the way from router r on: k hops are left -/
def rWy (s : rS) (b : Nat) : Nat → Nat → Int32 → Int32
  | 0, _, _ => -1
  | k + 1, hop, r => if r < 0 ∨ s.2 7 (8 * r.toNatClampNeg + b) < 0 ∨ s.2 10 (8 * r.toNatClampNeg + b) = 2 then -1 else if s.2 7 (8 * r.toNatClampNeg + b) = 0 then nI hop else rWy s b k (hop + 1) (s.2 8 (8 * r.toNatClampNeg + b))
def rWay (s : rS) (R a b : Nat) : Int32 := if a = b then 0 else rWy s b 15 1 (rFst s a R 0)
/-- a router's number or less than 0 -/
def rRt (x : Int32) : Prop := x < 0 ∨ ∃ r, r < 6 ∧ x = nI r
set_option maxRecDepth 100000 in
set_option maxHeartbeats 4000000 in
theorem rl113 {E : xE} {M : xM} {m nx a b : Nat} {s : rS} {Q : Option Value → xM → Nat → Prop} (h : rRep M m s) (hb : b < 8) (hnx : ∀ k, k < 48 → rRt (s.2 8 k)) : ∀ k hop r, hop + k = 16 → rRt r → Q (some (.int (rWy s b k hop r))) M nx →
    XZ E 113 (xZ E 113 Q) 16 [some (.ref m), some (.int (nI a)), some (.int (nI b)), some (.int r), some (.int (nI hop))] [] M nx 0 0 := by
  intro k
  induction k with
  | zero =>
    intro hop r hh hr hq
    obtain rfl : hop = 16 := by omega
    refine XZ.runH 60 [16] ?_
    simp only [n113, t113, ↓xh, ↓xst, ↓xrunE, ↓rG, rL, rSt, updA, List.elem_nil, List.elem_cons, Nat.reduceBEq, Bool.false_eq_true, if_false, if_true, true_and, and_true, true_or, or_true, not_false_eq_true, Nat.reduceAdd, Nat.reduceSub, Nat.reduceLeDiff, Nat.reduceEqDiff, Nat.reduceLT, ↓reduceIte, List.length_cons, List.length_nil, List.set_cons_zero, List.set_cons_succ, Nat.le_refl, Nat.zero_le, Nat.zero_sub, Nat.sub_zero, List.nil_append, List.cons_append, Option.toList_some, Option.toList_none, eq_self, ↓rO1 h, show (16 : Int32) ≤ nI 16 by decide]
    exact hq
  | succ k ih =>
    intro hop r hh hr hq
    have hc : ¬ (16 : Int32) ≤ nI hop := nI_ge (show hop < 16 by omega) (by decide)
    refine XZ.runH 60 [16] ?_
    rcases hr with hr | ⟨r, hr, rfl⟩
    · simp only [n113, t113, ↓xh, ↓xst, ↓xrunE, ↓rG, rL, rSt, updA, List.elem_nil, List.elem_cons, Nat.reduceBEq, Bool.false_eq_true, if_false, if_true, true_and, and_true, true_or, or_true, not_false_eq_true, Nat.reduceAdd, Nat.reduceSub, Nat.reduceLeDiff, Nat.reduceEqDiff, Nat.reduceLT, ↓reduceIte, List.length_cons, List.length_nil, List.set_cons_zero, List.set_cons_succ, Nat.le_refl, Nat.zero_le, Nat.zero_sub, Nat.sub_zero, List.nil_append, List.cons_append, Option.toList_some, Option.toList_none, eq_self, ↓rO1 h, ↓rB h, hc, hr]
      simpa [rWy, hr] using hq
    · simp only [n113, t113, ↓xh, ↓xst, ↓xrunE, ↓rG, rL, rSt, updA, List.elem_nil, List.elem_cons, Nat.reduceBEq, Bool.false_eq_true, if_false, if_true, true_and, and_true, true_or, or_true, not_false_eq_true, Nat.reduceAdd, Nat.reduceSub, Nat.reduceLeDiff, Nat.reduceEqDiff, Nat.reduceLT, ↓reduceIte, List.length_cons, List.length_nil, List.set_cons_zero, List.set_cons_succ, Nat.le_refl, Nat.zero_le, Nat.zero_sub, Nat.sub_zero, List.nil_append, List.cons_append, Option.toList_some, Option.toList_none, eq_self, ↓rO1 h, ↓rB h, hc, nIx hr, nIm8, nI_add, nIx (show 8 * r + b < 48 by omega), nI_1]
      have e1 : ¬ nI r < 0 := nI_pos (by omega)
      rw [rWy, nI_clamp (show r < 2 ^ 31 by omega)] at hq
      by_cases c : s.2 7 (8 * r + b) < 0
      · simpa [c] using hq
      · by_cases d : s.2 10 (8 * r + b) = 2
        · simpa [c, d] using hq
        · by_cases f : s.2 7 (8 * r + b) = 0
          · simp only [e1, c, d, f, if_true, if_false, or_self] at hq ⊢
            simpa using hq
          · simp only [e1, c, d, f, if_true, if_false, or_self] at hq ⊢
            exact ih (hop + 1) _ (by omega) (hnx _ (by omega)) hq
theorem rFst_rt (s : rS) (n : Nat) : ∀ k r, r + k ≤ 6 → rRt (rFst s n k r)
  | 0, r, _ => Or.inl (show (-1 : Int32) < 0 by decide)
  | k + 1, r, h => by
    unfold rFst
    by_cases c : ¬ s.2 6 r = 0 ∧ rHas s r n = true
    · rw [if_pos c]
      exact Or.inr ⟨r, by omega, rfl⟩
    · rw [if_neg c]
      exact rFst_rt s n k (r + 1) (by omega)
set_option maxRecDepth 100000 in
set_option maxHeartbeats 4000000 in
theorem rc113 {E : xE} {M : xM} {m nx a b R : Nat} {s : rS} {Q : Option Value → xM → Nat → Prop} (h : rRep M m s) (hR : R ≤ 6) (hs : s.1 9 = nI R) (ha : a < 8) (hb : b < 8) (hnx : ∀ k, k < 48 → rRt (s.2 8 k)) (hq : Q (some (.int (rWay s R a b))) M nx) : XC E 113 [.ref m, .int (nI a), .int (nI b)] M nx Q := by
  refine XC.run 20 [16] ?_
  simp only [n113, n125, t113, ↓xh, ↓xst, ↓xrunE, ↓rG, rL, rSt, updA, List.elem_nil, List.elem_cons, Nat.reduceBEq, Bool.false_eq_true, if_false, if_true, true_and, and_true, true_or, or_true, not_false_eq_true, Nat.reduceAdd, Nat.reduceSub, Nat.reduceLeDiff, Nat.reduceEqDiff, Nat.reduceLT, ↓reduceIte, List.length_cons, List.length_nil, List.set_cons_zero, List.set_cons_succ, Nat.le_refl, Nat.zero_le, Nat.zero_sub, Nat.sub_zero, List.nil_append, List.cons_append, Option.toList_some, Option.toList_none, eq_self, rO1 h]
  by_cases c : a = b
  · subst c
    simpa [rWay] using hq
  · have c2 : ¬ nI a = nI b := fun z => c ((nI_eq (by omega) (by omega)).mp z)
    simp only [c2, if_false]
    refine rc125 h hR hs ?_
    refine XZ.run 20 [16] ?_
    simp only [n113, t113, ↓xh, ↓xst, ↓xrunE, ↓rG, rL, rSt, updA, List.elem_nil, List.elem_cons, Nat.reduceBEq, Bool.false_eq_true, if_false, if_true, true_and, and_true, true_or, or_true, not_false_eq_true, Nat.reduceAdd, Nat.reduceSub, Nat.reduceLeDiff, Nat.reduceEqDiff, Nat.reduceLT, ↓reduceIte, List.length_cons, List.length_nil, List.set_cons_zero, List.set_cons_succ, Nat.le_refl, Nat.zero_le, Nat.zero_sub, Nat.sub_zero, List.nil_append, List.cons_append, Option.toList_some, Option.toList_none, eq_self]
    exact rl113 h hb hnx 15 1 _ rfl (rFst_rt s a R 0 (by omega)) (by simpa [rWay, c] using hq)
def rHops (s : rS) (R N : Nat) (a b : Int32) : Int32 := if a < 0 ∨ nI N ≤ a ∨ b < 0 ∨ nI N ≤ b then -1 else rWay s R a.toNatClampNeg b.toNatClampNeg
set_option maxRecDepth 100000 in
set_option maxHeartbeats 4000000 in
theorem rc91 {E : xE} {M : xM} {m nx R N : Nat} {a b : Int32} {s : rS} {Q : Option Value → xM → Nat → Prop} (h : rRep M m s) (hR : R ≤ 6) (hs : s.1 9 = nI R) (hN : N ≤ 8) (hsN : s.1 7 = nI N) (hnx : ∀ k, k < 48 → rRt (s.2 8 k)) (hq : Q (some (.int (rHops s R N a b))) M nx) : XC E 91 [.ref m, .int a, .int b] M nx Q := by
  refine XC.run 30 [] ?_
  by_cases c : a < 0
  · simp only [n91, t91, ↓xh, ↓xst, ↓xrunE, ↓rG, rL, rSt, updA, List.elem_nil, List.elem_cons, Nat.reduceBEq, Bool.false_eq_true, if_false, if_true, true_and, and_true, true_or, or_true, not_false_eq_true, Nat.reduceAdd, Nat.reduceSub, Nat.reduceLeDiff, Nat.reduceEqDiff, Nat.reduceLT, ↓reduceIte, List.length_cons, List.length_nil, List.set_cons_zero, List.set_cons_succ, Nat.le_refl, Nat.zero_le, Nat.zero_sub, Nat.sub_zero, List.nil_append, List.cons_append, Option.toList_some, Option.toList_none, eq_self, lT c]
    simpa [rHops, c] using hq
  · by_cases c2 : nI N ≤ a
    · simp only [n91, t91, ↓xh, ↓xst, ↓xrunE, ↓rG, rL, rSt, updA, List.elem_nil, List.elem_cons, Nat.reduceBEq, Bool.false_eq_true, if_false, if_true, true_and, and_true, true_or, or_true, not_false_eq_true, Nat.reduceAdd, Nat.reduceSub, Nat.reduceLeDiff, Nat.reduceEqDiff, Nat.reduceLT, ↓reduceIte, List.length_cons, List.length_nil, List.set_cons_zero, List.set_cons_succ, Nat.le_refl, Nat.zero_le, Nat.zero_sub, Nat.sub_zero, List.nil_append, List.cons_append, Option.toList_some, Option.toList_none, eq_self, lF c, ↓rO1 h, hsN, eT c2]
      simpa [rHops, c2] using hq
    · by_cases d : b < 0
      · simp only [n91, t91, ↓xh, ↓xst, ↓xrunE, ↓rG, rL, rSt, updA, List.elem_nil, List.elem_cons, Nat.reduceBEq, Bool.false_eq_true, if_false, if_true, true_and, and_true, true_or, or_true, not_false_eq_true, Nat.reduceAdd, Nat.reduceSub, Nat.reduceLeDiff, Nat.reduceEqDiff, Nat.reduceLT, ↓reduceIte, List.length_cons, List.length_nil, List.set_cons_zero, List.set_cons_succ, Nat.le_refl, Nat.zero_le, Nat.zero_sub, Nat.sub_zero, List.nil_append, List.cons_append, Option.toList_some, Option.toList_none, eq_self, lF c, ↓rO1 h, hsN, eF c2, lT d]
        simpa [rHops, d] using hq
      · by_cases d2 : nI N ≤ b
        · simp only [n91, t91, ↓xh, ↓xst, ↓xrunE, ↓rG, rL, rSt, updA, List.elem_nil, List.elem_cons, Nat.reduceBEq, Bool.false_eq_true, if_false, if_true, true_and, and_true, true_or, or_true, not_false_eq_true, Nat.reduceAdd, Nat.reduceSub, Nat.reduceLeDiff, Nat.reduceEqDiff, Nat.reduceLT, ↓reduceIte, List.length_cons, List.length_nil, List.set_cons_zero, List.set_cons_succ, Nat.le_refl, Nat.zero_le, Nat.zero_sub, Nat.sub_zero, List.nil_append, List.cons_append, Option.toList_some, Option.toList_none, eq_self, lF c, ↓rO1 h, hsN, eF c2, lF d, eT d2]
          simpa [rHops, d2] using hq
        · obtain ⟨i, hi, rfl⟩ := nIv (X := N) c c2 (by omega)
          obtain ⟨j, hj, rfl⟩ := nIv (X := N) d d2 (by omega)
          simp only [n91, n113, t91, ↓xh, ↓xst, ↓xrunE, ↓rG, rL, rSt, updA, List.elem_nil, List.elem_cons, Nat.reduceBEq, Bool.false_eq_true, if_false, if_true, true_and, and_true, true_or, or_true, not_false_eq_true, Nat.reduceAdd, Nat.reduceSub, Nat.reduceLeDiff, Nat.reduceEqDiff, Nat.reduceLT, ↓reduceIte, List.length_cons, List.length_nil, List.set_cons_zero, List.set_cons_succ, Nat.le_refl, Nat.zero_le, Nat.zero_sub, Nat.sub_zero, List.nil_append, List.cons_append, Option.toList_some, Option.toList_none, eq_self, lF c, ↓rO1 h, hsN, eF c2, lF d, eF d2]
          refine rc113 (a := i) (b := j) h hR hs (by omega) (by omega) hnx ?_
          refine XZ.run 20 [] ?_
          simp only [n91, t91, ↓xh, ↓xst, ↓xrunE, ↓rG, rL, rSt, updA, List.elem_nil, List.elem_cons, Nat.reduceBEq, Bool.false_eq_true, if_false, if_true, true_and, and_true, true_or, or_true, not_false_eq_true, Nat.reduceAdd, Nat.reduceSub, Nat.reduceLeDiff, Nat.reduceEqDiff, Nat.reduceLT, ↓reduceIte, List.length_cons, List.length_nil, List.set_cons_zero, List.set_cons_succ, Nat.le_refl, Nat.zero_le, Nat.zero_sub, Nat.sub_zero, List.nil_append, List.cons_append, Option.toList_some, Option.toList_none, eq_self]
          rw [rHops, if_neg (by simp [c, c2, d, d2]), nI_clamp (by omega), nI_clamp (by omega)] at hq
          exact hq
def rRoute (s : rS) (R N : Nat) (a b : Int32) : Int32 := if a < 0 ∨ nI R ≤ a ∨ b < 0 ∨ nI N ≤ b then -1 else if s.2 7 (8 * a.toNatClampNeg + b.toNatClampNeg) < 0 then -1 else
  s.2 7 (8 * a.toNatClampNeg + b.toNatClampNeg) + 16 * s.2 10 (8 * a.toNatClampNeg + b.toNatClampNeg) + (if s.2 11 (8 * a.toNatClampNeg + b.toNatClampNeg) = 0 then 0 else 64) + 128 * (1 + s.2 8 (8 * a.toNatClampNeg + b.toNatClampNeg)) + 1024 * s.2 9 (8 * a.toNatClampNeg + b.toNatClampNeg)
set_option maxRecDepth 100000 in
set_option maxHeartbeats 4000000 in
theorem rc90 {E : xE} {M : xM} {m nx R N : Nat} {a b : Int32} {s : rS} {Q : Option Value → xM → Nat → Prop} (h : rRep M m s) (hR : R ≤ 6) (hs : s.1 9 = nI R) (hN : N ≤ 8) (hsN : s.1 7 = nI N) (hq : Q (some (.int (rRoute s R N a b))) M nx) : XC E 90 [.ref m, .int a, .int b] M nx Q := by
  refine XC.run 80 [] ?_
  by_cases c : a < 0
  · simp only [n90, t90, ↓xh, ↓xst, ↓xrunE, ↓rG, rL, rSt, updA, List.elem_nil, List.elem_cons, Nat.reduceBEq, Bool.false_eq_true, if_false, if_true, true_and, and_true, true_or, or_true, not_false_eq_true, Nat.reduceAdd, Nat.reduceSub, Nat.reduceLeDiff, Nat.reduceEqDiff, Nat.reduceLT, ↓reduceIte, List.length_cons, List.length_nil, List.set_cons_zero, List.set_cons_succ, Nat.le_refl, Nat.zero_le, Nat.zero_sub, Nat.sub_zero, List.nil_append, List.cons_append, Option.toList_some, Option.toList_none, eq_self, lT c]
    simpa [rRoute, c] using hq
  · by_cases c2 : nI R ≤ a
    · simp only [n90, t90, ↓xh, ↓xst, ↓xrunE, ↓rG, rL, rSt, updA, List.elem_nil, List.elem_cons, Nat.reduceBEq, Bool.false_eq_true, if_false, if_true, true_and, and_true, true_or, or_true, not_false_eq_true, Nat.reduceAdd, Nat.reduceSub, Nat.reduceLeDiff, Nat.reduceEqDiff, Nat.reduceLT, ↓reduceIte, List.length_cons, List.length_nil, List.set_cons_zero, List.set_cons_succ, Nat.le_refl, Nat.zero_le, Nat.zero_sub, Nat.sub_zero, List.nil_append, List.cons_append, Option.toList_some, Option.toList_none, eq_self, lF c, ↓rO1 h, hs, eT c2]
      simpa [rRoute, c2] using hq
    · by_cases d : b < 0
      · simp only [n90, t90, ↓xh, ↓xst, ↓xrunE, ↓rG, rL, rSt, updA, List.elem_nil, List.elem_cons, Nat.reduceBEq, Bool.false_eq_true, if_false, if_true, true_and, and_true, true_or, or_true, not_false_eq_true, Nat.reduceAdd, Nat.reduceSub, Nat.reduceLeDiff, Nat.reduceEqDiff, Nat.reduceLT, ↓reduceIte, List.length_cons, List.length_nil, List.set_cons_zero, List.set_cons_succ, Nat.le_refl, Nat.zero_le, Nat.zero_sub, Nat.sub_zero, List.nil_append, List.cons_append, Option.toList_some, Option.toList_none, eq_self, lF c, ↓rO1 h, hs, eF c2, lT d]
        simpa [rRoute, d] using hq
      · by_cases d2 : nI N ≤ b
        · simp only [n90, t90, ↓xh, ↓xst, ↓xrunE, ↓rG, rL, rSt, updA, List.elem_nil, List.elem_cons, Nat.reduceBEq, Bool.false_eq_true, if_false, if_true, true_and, and_true, true_or, or_true, not_false_eq_true, Nat.reduceAdd, Nat.reduceSub, Nat.reduceLeDiff, Nat.reduceEqDiff, Nat.reduceLT, ↓reduceIte, List.length_cons, List.length_nil, List.set_cons_zero, List.set_cons_succ, Nat.le_refl, Nat.zero_le, Nat.zero_sub, Nat.sub_zero, List.nil_append, List.cons_append, Option.toList_some, Option.toList_none, eq_self, lF c, ↓rO1 h, hs, hsN, eF c2, lF d, eT d2]
          simpa [rRoute, d2] using hq
        · obtain ⟨i, hi, rfl⟩ := nIv (X := R) c c2 (by omega)
          obtain ⟨j, hj, rfl⟩ := nIv (X := N) d d2 (by omega)
          simp only [n90, t90, ↓xh, ↓xst, ↓xrunE, ↓rG, rL, rSt, updA, List.elem_nil, List.elem_cons, Nat.reduceBEq, Bool.false_eq_true, if_false, if_true, true_and, and_true, true_or, or_true, not_false_eq_true, Nat.reduceAdd, Nat.reduceSub, Nat.reduceLeDiff, Nat.reduceEqDiff, Nat.reduceLT, ↓reduceIte, List.length_cons, List.length_nil, List.set_cons_zero, List.set_cons_succ, Nat.le_refl, Nat.zero_le, Nat.zero_sub, Nat.sub_zero, List.nil_append, List.cons_append, Option.toList_some, Option.toList_none, eq_self, lF c, ↓rO1 h, ↓rB h, hs, hsN, eF c2, lF d, eF d2, nIm8, nI_add, nIx (show 8 * i + j < 48 by omega)]
          rw [rRoute, if_neg (by simp [c, c2, d, d2]), nI_clamp (show i < 2 ^ 31 by omega), nI_clamp (show j < 2 ^ 31 by omega)] at hq
          by_cases f : s.2 7 (8 * i + j) < 0
          · simp only [lT f, if_true, if_false] at hq ⊢
            exact hq
          · by_cases f2 : s.2 11 (8 * i + j) = 0
            · simp only [lF f, f2, if_true, if_false] at hq ⊢
              exact hq
            · simp only [lF f, f2, if_true, if_false] at hq ⊢
              exact hq
/-- a packet: what the losses become, whether it comes -/
def rLs (x : Int32) : Int32 := (x.toUInt32 >>> ((1 : Int32).toUInt32 &&& Int32.toUInt32 31)).toInt32
def rPk (s : rS) : rS := (upd (upd s.1 47 (rLs (s.1 47))) 48 (s.1 48 + 1), s.2)
def rGot (s : rS) (R a b : Nat) : Bool := decide (¬ s.1 47 &&& 1 = 1) && decide (¬ rWay s R a b < 0)
theorem rWy_sc (s : rS) (f : Nat → Int32) (b : Nat) : ∀ k hop r, rWy (f, s.2) b k hop r = rWy s b k hop r
  | 0, _, _ => rfl
  | k + 1, hop, r => by
    unfold rWy
    rw [rWy_sc s f b k]
theorem rFst_sc (s : rS) (f : Nat → Int32) (n : Nat) : ∀ k r, rFst (f, s.2) n k r = rFst s n k r
  | 0, _ => rfl
  | k + 1, r => by
    unfold rFst
    rw [rFst_sc s f n k]
    rfl
theorem rWay_sc (s : rS) (f : Nat → Int32) (R a b : Nat) : rWay (f, s.2) R a b = rWay s R a b := by
  unfold rWay
  rw [rWy_sc s f, rFst_sc s f]
set_option maxRecDepth 100000 in
set_option maxHeartbeats 4000000 in
theorem rc122 {E : xE} {M0 M : xM} {m nx a b R : Nat} {s : rS} {Q : Option Value → xM → Nat → Prop} (hb : xb E ≤ m) (h : rR M0 M m s) (hR : R ≤ 6) (hs : s.1 9 = nI R) (ha : a < 8) (hb8 : b < 8) (hnx : ∀ k, k < 48 → rRt (s.2 8 k))
    (hq : ∀ M', rR M0 M' m (rPk s) → Q (some (.int (if rGot s R a b then 1 else 0))) M' nx) : XC E 122 [.ref m, .int (nI a), .int (nI b)] M nx Q := by
  have fin : ∀ M', rR M0 M' m (rPk s) → XZ E 122 (xZ E 122 Q) 36 [some (.ref m), some (.int (nI a)), some (.int (nI b)), some (.int (if s.1 47 &&& 1 = 1 then 1 else 0))] [] M' nx 0 0 := by
    intro M2 h2
    refine XZ.runH 60 [] ?_
    have z := hq _ h2
    by_cases c : s.1 47 &&& 1 = 1
    · simp only [n122, n113, t122, ↓xh, ↓xst, ↓xrunE, ↓rG, rL, rSt, updA, List.elem_nil, List.elem_cons, Nat.reduceBEq, Bool.false_eq_true, if_false, if_true, true_and, and_true, true_or, or_true, not_false_eq_true, Nat.reduceAdd, Nat.reduceSub, Nat.reduceLeDiff, Nat.reduceEqDiff, Nat.reduceLT, ↓reduceIte, List.length_cons, List.length_nil, List.set_cons_zero, List.set_cons_succ, Nat.le_refl, Nat.zero_le, Nat.zero_sub, Nat.sub_zero, List.nil_append, List.cons_append, Option.toList_some, Option.toList_none, eq_self, ↓rO1 h2.1, c, show ¬ (1 : Int32) = 0 by decide]
      simp only [rGot, c, not_true_eq_false, decide_false, Bool.false_and, Bool.false_eq_true, if_false] at z
      exact z
    · simp only [n122, n113, t122, ↓xh, ↓xst, ↓xrunE, ↓rG, rL, rSt, updA, List.elem_nil, List.elem_cons, Nat.reduceBEq, Bool.false_eq_true, if_false, if_true, true_and, and_true, true_or, or_true, not_false_eq_true, Nat.reduceAdd, Nat.reduceSub, Nat.reduceLeDiff, Nat.reduceEqDiff, Nat.reduceLT, ↓reduceIte, List.length_cons, List.length_nil, List.set_cons_zero, List.set_cons_succ, Nat.le_refl, Nat.zero_le, Nat.zero_sub, Nat.sub_zero, List.nil_append, List.cons_append, Option.toList_some, Option.toList_none, eq_self, ↓rO1 h2.1, c]
      refine rc113 h2.1 hR hs ha hb8 hnx ?_
      refine XZ.runH 20 [] ?_
      have e9 : rWay (rPk s) R a b = rWay s R a b := rWay_sc s _ R a b
      rw [e9]
      by_cases d : rWay s R a b < 0
      · simp only [n122, t122, ↓xh, ↓xst, ↓xrunE, ↓rG, rL, rSt, updA, List.elem_nil, List.elem_cons, Nat.reduceBEq, Bool.false_eq_true, if_false, if_true, true_and, and_true, true_or, or_true, not_false_eq_true, Nat.reduceAdd, Nat.reduceSub, Nat.reduceLeDiff, Nat.reduceEqDiff, Nat.reduceLT, ↓reduceIte, List.length_cons, List.length_nil, List.set_cons_zero, List.set_cons_succ, Nat.le_refl, Nat.zero_le, Nat.zero_sub, Nat.sub_zero, List.nil_append, List.cons_append, Option.toList_some, Option.toList_none, eq_self, lT d]
        simp only [rGot, d, not_true_eq_false, decide_false, Bool.and_false, Bool.false_eq_true, if_false] at z
        exact z
      · simp only [n122, t122, ↓xh, ↓xst, ↓xrunE, ↓rG, rL, rSt, updA, List.elem_nil, List.elem_cons, Nat.reduceBEq, Bool.false_eq_true, if_false, if_true, true_and, and_true, true_or, or_true, not_false_eq_true, Nat.reduceAdd, Nat.reduceSub, Nat.reduceLeDiff, Nat.reduceEqDiff, Nat.reduceLT, ↓reduceIte, List.length_cons, List.length_nil, List.set_cons_zero, List.set_cons_succ, Nat.le_refl, Nat.zero_le, Nat.zero_sub, Nat.sub_zero, List.nil_append, List.cons_append, Option.toList_some, Option.toList_none, eq_self, lF d]
        simp only [rGot, c, d, not_false_eq_true, decide_true, Bool.and_true, if_true] at z
        exact z
  refine XC.run 60 [26, 36] ?_
  by_cases c : s.1 47 &&& 1 = 1
  · rw [if_pos c] at fin
    simp only [n122, t122, ↓xh, ↓xst, ↓xrunE, ↓rG, rL, rSt, updA, List.elem_nil, List.elem_cons, Nat.reduceBEq, Bool.false_eq_true, if_false, if_true, true_and, and_true, true_or, or_true, not_false_eq_true, Nat.reduceAdd, Nat.reduceSub, Nat.reduceLeDiff, Nat.reduceEqDiff, Nat.reduceLT, ↓reduceIte, List.length_cons, List.length_nil, List.set_cons_zero, List.set_cons_succ, Nat.le_refl, Nat.zero_le, Nat.zero_sub, Nat.sub_zero, List.nil_append, List.cons_append, Option.toList_some, Option.toList_none, eq_self, ↓rO1 h.1, hb, c]
    refine XZ.abs h.fl (fun M1 h1 => ?_)
    refine XZ.runH 60 [26, 36] ?_
    simp only [n122, t122, ↓xh, ↓xst, ↓xrunE, ↓rG, rL, rSt, updA, List.elem_nil, List.elem_cons, Nat.reduceBEq, Bool.false_eq_true, if_false, if_true, true_and, and_true, true_or, or_true, not_false_eq_true, Nat.reduceAdd, Nat.reduceSub, Nat.reduceLeDiff, Nat.reduceEqDiff, Nat.reduceLT, ↓reduceIte, List.length_cons, List.length_nil, List.set_cons_zero, List.set_cons_succ, Nat.le_refl, Nat.zero_le, Nat.zero_sub, Nat.sub_zero, List.nil_append, List.cons_append, Option.toList_some, Option.toList_none, eq_self, ↓rO1 h1.1, hb]
    exact fin _ h1.fl
  · rw [if_neg c] at fin
    simp only [n122, t122, ↓xh, ↓xst, ↓xrunE, ↓rG, rL, rSt, updA, List.elem_nil, List.elem_cons, Nat.reduceBEq, Bool.false_eq_true, if_false, if_true, true_and, and_true, true_or, or_true, not_false_eq_true, Nat.reduceAdd, Nat.reduceSub, Nat.reduceLeDiff, Nat.reduceEqDiff, Nat.reduceLT, ↓reduceIte, List.length_cons, List.length_nil, List.set_cons_zero, List.set_cons_succ, Nat.le_refl, Nat.zero_le, Nat.zero_sub, Nat.sub_zero, List.nil_append, List.cons_append, Option.toList_some, Option.toList_none, eq_self, ↓rO1 h.1, hb, c]
    refine XZ.abs h.fl (fun M1 h1 => ?_)
    refine XZ.runH 60 [26, 36] ?_
    simp only [n122, t122, ↓xh, ↓xst, ↓xrunE, ↓rG, rL, rSt, updA, List.elem_nil, List.elem_cons, Nat.reduceBEq, Bool.false_eq_true, if_false, if_true, true_and, and_true, true_or, or_true, not_false_eq_true, Nat.reduceAdd, Nat.reduceSub, Nat.reduceLeDiff, Nat.reduceEqDiff, Nat.reduceLT, ↓reduceIte, List.length_cons, List.length_nil, List.set_cons_zero, List.set_cons_succ, Nat.le_refl, Nat.zero_le, Nat.zero_sub, Nat.sub_zero, List.nil_append, List.cons_append, Option.toList_some, Option.toList_none, eq_self, ↓rO1 h1.1, hb]
    exact fin _ h1.fl
