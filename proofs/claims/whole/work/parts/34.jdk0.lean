/-! THE JDK: strings of letters below 128 -/
/-- a string at a, its bytes at p: n letters f -/
def jS (M : xM) (a p n : Nat) (f : Nat → Int32) : Prop := M a = some (.inl (4, [.ref p, .int 0])) ∧ M p = some (.inr (1, n, fun k => .int (f k))) ∧ n ≤ 64 ∧ ∀ k, k < n → rCh (f k)
theorem jO {M : xM} {a p n : Nat} {f : Nat → Int32} (h : jS M a p n f) : ∀ P, xobj M a 4 P = P [.ref p, .int 0] := fun P => by simp [xobj, h.1]
theorem jA {M : xM} {a p n : Nat} {f : Nat → Int32} (h : jS M a p n f) : ∀ P, xarr M p P = P 1 n (fun k => .int (f k)) := fun P => by simp [xarr, h.2.1]
theorem ofN (n : Nat) : Int32.ofNat n = nI n := rfl
theorem shr0 (x : Int32) : x >>> ((0 : Int32) &&& 31) = x := by
  rw [show (0 : Int32) &&& 31 = 0 by decide]
  exact Int32.shiftRight_zero
set_option maxRecDepth 100000 in
set_option maxHeartbeats 4000000 in
theorem jc154 {E : xE} {M : xM} {a p n nx : Nat} {f : Nat → Int32} {Q : Option Value → xM → Nat → Prop} (h : jS M a p n f) (hq : Q (some (.int 0)) M nx) : XC E 154 [.ref a] M nx Q := by
  refine XC.run 60 [] ?_
  simp only [n154, t154, ↓xh, ↓xst, ↓xrunE, ↓rG, rL, rSt, updA, List.elem_nil, List.elem_cons, Nat.reduceBEq, Bool.false_eq_true, if_false, if_true, true_and, and_true, true_or, or_true, not_false_eq_true, Nat.reduceAdd, Nat.reduceSub, Nat.reduceLeDiff, Nat.reduceEqDiff, Nat.reduceLT, ↓reduceIte, List.length_cons, List.length_nil, List.set_cons_zero, List.set_cons_succ, Nat.le_refl, Nat.zero_le, Nat.zero_sub, Nat.sub_zero, List.nil_append, List.cons_append, Option.toList_some, Option.toList_none, eq_self, ↓jO h, show ¬ (1 : Int32) = 0 by decide, show (Int32.toInt8 0).toInt32 = 0 by decide]
  exact hq
set_option maxRecDepth 100000 in
set_option maxHeartbeats 4000000 in
theorem jc152 {E : xE} {M : xM} {a p n nx : Nat} {f : Nat → Int32} {Q : Option Value → xM → Nat → Prop} (h : jS M a p n f) (hq : Q (some (.int 1)) M nx) : XC E 152 [.ref a] M nx Q := by
  refine XC.run 60 [] ?_
  simp only [n152, t152, ↓xh, ↓xst, ↓xrunE, ↓rG, rL, rSt, updA, List.elem_nil, List.elem_cons, Nat.reduceBEq, Bool.false_eq_true, if_false, if_true, true_and, and_true, true_or, or_true, not_false_eq_true, Nat.reduceAdd, Nat.reduceSub, Nat.reduceLeDiff, Nat.reduceEqDiff, Nat.reduceLT, ↓reduceIte, List.length_cons, List.length_nil, List.set_cons_zero, List.set_cons_succ, Nat.le_refl, Nat.zero_le, Nat.zero_sub, Nat.sub_zero, List.nil_append, List.cons_append, Option.toList_some, Option.toList_none, eq_self, ↓jO h, show ¬ (1 : Int32) = 0 by decide]
  exact hq
set_option maxRecDepth 100000 in
set_option maxHeartbeats 4000000 in
theorem jc148 {E : xE} {M : xM} {a p n nx : Nat} {f : Nat → Int32} {Q : Option Value → xM → Nat → Prop} (h : jS M a p n f) (hq : Q (some (.int (nI n))) M nx) : XC E 148 [.ref a] M nx Q := by
  refine XC.run 60 [] ?_
  simp only [n148, n154, t148, ↓xh, ↓xst, ↓xrunE, ↓rG, rL, rSt, updA, List.elem_nil, List.elem_cons, Nat.reduceBEq, Bool.false_eq_true, if_false, if_true, true_and, and_true, true_or, or_true, not_false_eq_true, Nat.reduceAdd, Nat.reduceSub, Nat.reduceLeDiff, Nat.reduceEqDiff, Nat.reduceLT, ↓reduceIte, List.length_cons, List.length_nil, List.set_cons_zero, List.set_cons_succ, Nat.le_refl, Nat.zero_le, Nat.zero_sub, Nat.sub_zero, List.nil_append, List.cons_append, Option.toList_some, Option.toList_none, eq_self, ↓jO h, ↓jA h]
  refine jc154 h ?_
  refine XZ.runH 60 [] ?_
  simp only [n148, t148, ↓xh, ↓xst, ↓xrunE, ↓rG, rL, rSt, updA, List.elem_nil, List.elem_cons, Nat.reduceBEq, Bool.false_eq_true, if_false, if_true, true_and, and_true, true_or, or_true, not_false_eq_true, Nat.reduceAdd, Nat.reduceSub, Nat.reduceLeDiff, Nat.reduceEqDiff, Nat.reduceLT, ↓reduceIte, List.length_cons, List.length_nil, List.set_cons_zero, List.set_cons_succ, Nat.le_refl, Nat.zero_le, Nat.zero_sub, Nat.sub_zero, List.nil_append, List.cons_append, Option.toList_some, Option.toList_none, eq_self, shr0]
  exact hq
set_option maxRecDepth 100000 in
set_option maxHeartbeats 4000000 in
theorem jc142 {E : xE} {M : xM} {a p n nx : Nat} {f : Nat → Int32} {Q : Option Value → xM → Nat → Prop} (h : jS M a p n f) (hq : Q (some (.int (if n = 0 then 1 else 0))) M nx) : XC E 142 [.ref a] M nx Q := by
  refine XC.run 60 [] ?_
  by_cases c : n = 0
  · subst c
    simp only [n142, t142, ↓xh, ↓xst, ↓xrunE, ↓rG, rL, rSt, updA, List.elem_nil, List.elem_cons, Nat.reduceBEq, Bool.false_eq_true, if_false, if_true, true_and, and_true, true_or, or_true, not_false_eq_true, Nat.reduceAdd, Nat.reduceSub, Nat.reduceLeDiff, Nat.reduceEqDiff, Nat.reduceLT, ↓reduceIte, List.length_cons, List.length_nil, List.set_cons_zero, List.set_cons_succ, Nat.le_refl, Nat.zero_le, Nat.zero_sub, Nat.sub_zero, List.nil_append, List.cons_append, Option.toList_some, Option.toList_none, eq_self, ↓jO h, ↓jA h, show nI 0 = 0 by decide]
    exact hq
  · have n0 : ¬ nI n = 0 := fun z => c (nI_inj (b := 0) (by have := h.2.2.1; omega) (by omega) z)
    simp only [n142, t142, ↓xh, ↓xst, ↓xrunE, ↓rG, rL, rSt, updA, List.elem_nil, List.elem_cons, Nat.reduceBEq, Bool.false_eq_true, if_false, if_true, true_and, and_true, true_or, or_true, not_false_eq_true, Nat.reduceAdd, Nat.reduceSub, Nat.reduceLeDiff, Nat.reduceEqDiff, Nat.reduceLT, ↓reduceIte, List.length_cons, List.length_nil, List.set_cons_zero, List.set_cons_succ, Nat.le_refl, Nat.zero_le, Nat.zero_sub, Nat.sub_zero, List.nil_append, List.cons_append, Option.toList_some, Option.toList_none, eq_self, ↓jO h, ↓jA h, ofN, n0]
    rw [if_neg c] at hq
    exact hq
set_option maxRecDepth 100000 in
set_option maxHeartbeats 4000000 in
theorem jc162 {E : xE} {M : xM} {nx : Nat} {x : Int32} {Q : Option Value → xM → Nat → Prop} (hx : x ≤ 255) (hq : Q (some (.int 1)) M nx) : XC E 162 [.int x] M nx Q := by
  refine XC.run 60 [] ?_
  simp only [n162, t162, ↓xh, ↓xst, ↓xrunE, ↓rG, rL, rSt, updA, List.elem_nil, List.elem_cons, Nat.reduceBEq, Bool.false_eq_true, if_false, if_true, true_and, and_true, true_or, or_true, not_false_eq_true, Nat.reduceAdd, Nat.reduceSub, Nat.reduceLeDiff, Nat.reduceEqDiff, Nat.reduceLT, ↓reduceIte, List.length_cons, List.length_nil, List.set_cons_zero, List.set_cons_succ, Nat.le_refl, Nat.zero_le, Nat.zero_sub, Nat.sub_zero, List.nil_append, List.cons_append, Option.toList_some, Option.toList_none, eq_self, eT hx]
  exact hq
set_option maxRecDepth 100000 in
set_option maxHeartbeats 4000000 in
theorem jc167 {E : xE} {M : xM} {nx : Nat} {x : Int32} {Q : Option Value → xM → Nat → Prop} (h0 : ¬ x < 0) (hx : x ≤ 255) (hq : Q (some (.int 1)) M nx) : XC E 167 [.int x] M nx Q := by
  refine XC.run 60 [] ?_
  simp only [n167, t167, ↓xh, ↓xst, ↓xrunE, ↓rG, rL, rSt, updA, List.elem_nil, List.elem_cons, Nat.reduceBEq, Bool.false_eq_true, if_false, if_true, true_and, and_true, true_or, or_true, not_false_eq_true, Nat.reduceAdd, Nat.reduceSub, Nat.reduceLeDiff, Nat.reduceEqDiff, Nat.reduceLT, ↓reduceIte, List.length_cons, List.length_nil, List.set_cons_zero, List.set_cons_succ, Nat.le_refl, Nat.zero_le, Nat.zero_sub, Nat.sub_zero, List.nil_append, List.cons_append, Option.toList_some, Option.toList_none, eq_self, lF h0, eT hx]
  exact hq
set_option maxRecDepth 100000 in
set_option maxHeartbeats 4000000 in
theorem jc175 {E : xE} {M : xM} {nx i n : Nat} {o : Value} {Q : Option Value → xM → Nat → Prop} (hi : i < n) (hn : n < 2 ^ 31) (hq : Q (some (.int (nI i))) M nx) : XC E 175 [.int (nI i), .int (nI n), o] M nx Q := by
  have p0 := lF (nI_pos (show i < 2 ^ 31 by omega))
  have l0 := lT (k2_lt (nI_ge hi hn))
  refine XC.run 60 [] ?_
  simp only [n175, t175, ↓xh, ↓xst, ↓xrunE, ↓rG, rL, rSt, updA, List.elem_nil, List.elem_cons, Nat.reduceBEq, Bool.false_eq_true, if_false, if_true, true_and, and_true, true_or, or_true, not_false_eq_true, Nat.reduceAdd, Nat.reduceSub, Nat.reduceLeDiff, Nat.reduceEqDiff, Nat.reduceLT, ↓reduceIte, List.length_cons, List.length_nil, List.set_cons_zero, List.set_cons_succ, Nat.le_refl, Nat.zero_le, Nat.zero_sub, Nat.sub_zero, List.nil_append, List.cons_append, Option.toList_some, Option.toList_none, eq_self, p0, l0]
  exact hq
set_option maxRecDepth 100000 in
set_option maxHeartbeats 4000000 in
theorem jc174 {E : xE} {M : xM} {nx i j n : Nat} {o : Value} {Q : Option Value → xM → Nat → Prop} (hi : i ≤ j) (hj : j ≤ n) (hn : n < 2 ^ 31) (hq : Q (some (.int (nI i))) M nx) : XC E 174 [.int (nI i), .int (nI j), .int (nI n), o] M nx Q := by
  have p0 := lF (nI_pos (show i < 2 ^ 31 by omega))
  have l0 := eT (nI_le hi (show j < 2 ^ 31 by omega))
  have l1 := eT (nI_le hj hn)
  refine XC.run 60 [] ?_
  simp only [n174, t174, ↓xh, ↓xst, ↓xrunE, ↓rG, rL, rSt, updA, List.elem_nil, List.elem_cons, Nat.reduceBEq, Bool.false_eq_true, if_false, if_true, true_and, and_true, true_or, or_true, not_false_eq_true, Nat.reduceAdd, Nat.reduceSub, Nat.reduceLeDiff, Nat.reduceEqDiff, Nat.reduceLT, ↓reduceIte, List.length_cons, List.length_nil, List.set_cons_zero, List.set_cons_succ, Nat.le_refl, Nat.zero_le, Nat.zero_sub, Nat.sub_zero, List.nil_append, List.cons_append, Option.toList_some, Option.toList_none, eq_self, p0, l0, l1]
  exact hq
set_option maxRecDepth 100000 in
set_option maxHeartbeats 4000000 in
theorem jc156 {E : xE} {M : xM} {nx i n : Nat} {Q : Option Value → xM → Nat → Prop} (hi : i < n) (hn : n < 2 ^ 31) (hq : Q none M nx) : XC E 156 [.int (nI i), .int (nI n)] M nx Q := by
  refine XC.run 60 [] ?_
  simp only [n156, n175, t156, ↓xh, ↓xst, ↓xrunE, ↓rG, rL, rSt, updA, List.elem_nil, List.elem_cons, Nat.reduceBEq, Bool.false_eq_true, if_false, if_true, true_and, and_true, true_or, or_true, not_false_eq_true, Nat.reduceAdd, Nat.reduceSub, Nat.reduceLeDiff, Nat.reduceEqDiff, Nat.reduceLT, ↓reduceIte, List.length_cons, List.length_nil, List.set_cons_zero, List.set_cons_succ, Nat.le_refl, Nat.zero_le, Nat.zero_sub, Nat.sub_zero, List.nil_append, List.cons_append, Option.toList_some, Option.toList_none, eq_self]
  intro o
  refine ⟨by cases o <;> rfl, ?_⟩
  refine jc175 hi hn ?_
  refine XZ.runH 60 [] ?_
  simp only [n156, t156, ↓xh, ↓xst, ↓xrunE, ↓rG, rL, rSt, updA, List.elem_nil, List.elem_cons, Nat.reduceBEq, Bool.false_eq_true, if_false, if_true, true_and, and_true, true_or, or_true, not_false_eq_true, Nat.reduceAdd, Nat.reduceSub, Nat.reduceLeDiff, Nat.reduceEqDiff, Nat.reduceLT, ↓reduceIte, List.length_cons, List.length_nil, List.set_cons_zero, List.set_cons_succ, Nat.le_refl, Nat.zero_le, Nat.zero_sub, Nat.sub_zero, List.nil_append, List.cons_append, Option.toList_some, Option.toList_none, eq_self]
  exact hq
set_option maxRecDepth 100000 in
set_option maxHeartbeats 4000000 in
theorem jc151 {E : xE} {M : xM} {nx i j n : Nat} {Q : Option Value → xM → Nat → Prop} (hi : i ≤ j) (hj : j ≤ n) (hn : n < 2 ^ 31) (hq : Q none M nx) : XC E 151 [.int (nI i), .int (nI j), .int (nI n)] M nx Q := by
  refine XC.run 60 [] ?_
  simp only [n151, n174, t151, ↓xh, ↓xst, ↓xrunE, ↓rG, rL, rSt, updA, List.elem_nil, List.elem_cons, Nat.reduceBEq, Bool.false_eq_true, if_false, if_true, true_and, and_true, true_or, or_true, not_false_eq_true, Nat.reduceAdd, Nat.reduceSub, Nat.reduceLeDiff, Nat.reduceEqDiff, Nat.reduceLT, ↓reduceIte, List.length_cons, List.length_nil, List.set_cons_zero, List.set_cons_succ, Nat.le_refl, Nat.zero_le, Nat.zero_sub, Nat.sub_zero, List.nil_append, List.cons_append, Option.toList_some, Option.toList_none, eq_self]
  intro o
  refine ⟨by cases o <;> rfl, ?_⟩
  refine jc174 hi hj hn ?_
  refine XZ.runH 60 [] ?_
  simp only [n151, t151, ↓xh, ↓xst, ↓xrunE, ↓rG, rL, rSt, updA, List.elem_nil, List.elem_cons, Nat.reduceBEq, Bool.false_eq_true, if_false, if_true, true_and, and_true, true_or, or_true, not_false_eq_true, Nat.reduceAdd, Nat.reduceSub, Nat.reduceLeDiff, Nat.reduceEqDiff, Nat.reduceLT, ↓reduceIte, List.length_cons, List.length_nil, List.set_cons_zero, List.set_cons_succ, Nat.le_refl, Nat.zero_le, Nat.zero_sub, Nat.sub_zero, List.nil_append, List.cons_append, Option.toList_some, Option.toList_none, eq_self]
  exact hq
theorem rCh_255 : ∀ n, n < 128 → nI n &&& 255 = nI n := by decide +kernel
set_option maxRecDepth 100000 in
set_option maxHeartbeats 4000000 in
theorem jc165 {E : xE} {M : xM} {p n nx i : Nat} {f : Nat → Int32} {Q : Option Value → xM → Nat → Prop} (hA : ∀ P, xarr M p P = P 1 n (fun k => .int (f k))) (hi : i < n) (hn : n ≤ 64) (hf : rCh (f i)) (hq : Q (some (.int (f i))) M nx) : XC E 165 [.ref p, .int (nI i)] M nx Q := by
  have ii := nIx hi (by omega)
  refine XC.run 60 [] ?_
  simp only [n165, n156, t165, ↓xh, ↓xst, ↓xrunE, ↓rG, rL, rSt, updA, List.elem_nil, List.elem_cons, Nat.reduceBEq, Bool.false_eq_true, if_false, if_true, true_and, and_true, true_or, or_true, not_false_eq_true, Nat.reduceAdd, Nat.reduceSub, Nat.reduceLeDiff, Nat.reduceEqDiff, Nat.reduceLT, ↓reduceIte, List.length_cons, List.length_nil, List.set_cons_zero, List.set_cons_succ, Nat.le_refl, Nat.zero_le, Nat.zero_sub, Nat.sub_zero, List.nil_append, List.cons_append, Option.toList_some, Option.toList_none, eq_self, ↓hA, ofN]
  refine jc156 hi (by omega) ?_
  refine XZ.runH 60 [] ?_
  have e1 : f i &&& 255 = f i := by obtain ⟨c, hc, ec⟩ := hf; rw [ec]; exact rCh_255 c hc
  have e2 : ((f i).toUInt32 % 65536).toInt32 = f i := by obtain ⟨c, hc, ec⟩ := hf; rw [ec]; exact rCh_n c hc
  simp only [n165, t165, ↓xh, ↓xst, ↓xrunE, ↓rG, rL, rSt, updA, List.elem_nil, List.elem_cons, Nat.reduceBEq, Bool.false_eq_true, if_false, if_true, true_and, and_true, true_or, or_true, not_false_eq_true, Nat.reduceAdd, Nat.reduceSub, Nat.reduceLeDiff, Nat.reduceEqDiff, Nat.reduceLT, ↓reduceIte, List.length_cons, List.length_nil, List.set_cons_zero, List.set_cons_succ, Nat.le_refl, Nat.zero_le, Nat.zero_sub, Nat.sub_zero, List.nil_append, List.cons_append, Option.toList_some, Option.toList_none, eq_self, ↓hA, ii, e1, e2, rCh_v hf]
  exact hq
set_option maxRecDepth 100000 in
set_option maxHeartbeats 4000000 in
theorem jc149 {E : xE} {M : xM} {a p n nx i : Nat} {f : Nat → Int32} {Q : Option Value → xM → Nat → Prop} (h : jS M a p n f) (hi : i < n) (hq : Q (some (.int (f i))) M nx) : XC E 149 [.ref a, .int (nI i)] M nx Q := by
  refine XC.run 60 [] ?_
  simp only [n149, n152, t149, ↓xh, ↓xst, ↓xrunE, ↓rG, rL, rSt, updA, List.elem_nil, List.elem_cons, Nat.reduceBEq, Bool.false_eq_true, if_false, if_true, true_and, and_true, true_or, or_true, not_false_eq_true, Nat.reduceAdd, Nat.reduceSub, Nat.reduceLeDiff, Nat.reduceEqDiff, Nat.reduceLT, ↓reduceIte, List.length_cons, List.length_nil, List.set_cons_zero, List.set_cons_succ, Nat.le_refl, Nat.zero_le, Nat.zero_sub, Nat.sub_zero, List.nil_append, List.cons_append, Option.toList_some, Option.toList_none, eq_self, ↓jO h]
  refine jc152 h ?_
  refine XZ.runH 60 [] ?_
  simp only [n149, n165, t149, ↓xh, ↓xst, ↓xrunE, ↓rG, rL, rSt, updA, List.elem_nil, List.elem_cons, Nat.reduceBEq, Bool.false_eq_true, if_false, if_true, true_and, and_true, true_or, or_true, not_false_eq_true, Nat.reduceAdd, Nat.reduceSub, Nat.reduceLeDiff, Nat.reduceEqDiff, Nat.reduceLT, ↓reduceIte, List.length_cons, List.length_nil, List.set_cons_zero, List.set_cons_succ, Nat.le_refl, Nat.zero_le, Nat.zero_sub, Nat.sub_zero, List.nil_append, List.cons_append, Option.toList_some, Option.toList_none, eq_self, show ¬ (1 : Int32) = 0 by decide, ↓jO h]
  refine jc165 (jA h) hi h.2.2.1 (h.2.2.2 i hi) ?_
  refine XZ.runH 60 [] ?_
  simp only [n149, t149, ↓xh, ↓xst, ↓xrunE, ↓rG, rL, rSt, updA, List.elem_nil, List.elem_cons, Nat.reduceBEq, Bool.false_eq_true, if_false, if_true, true_and, and_true, true_or, or_true, not_false_eq_true, Nat.reduceAdd, Nat.reduceSub, Nat.reduceLeDiff, Nat.reduceEqDiff, Nat.reduceLT, ↓reduceIte, List.length_cons, List.length_nil, List.set_cons_zero, List.set_cons_succ, Nat.le_refl, Nat.zero_le, Nat.zero_sub, Nat.sub_zero, List.nil_append, List.cons_append, Option.toList_some, Option.toList_none, eq_self, rCh_v (h.2.2.2 i hi)]
  exact hq
