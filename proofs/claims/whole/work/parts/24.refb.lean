theorem ivP {x : Int32} (h1 : ¬ x < 1) (h2 : x ≤ 8) : ∃ w, 1 ≤ w ∧ w ≤ 8 ∧ x = nI w := by
  have h0 : ¬ x < 0 := by intro z; apply h1; rw [Int32.lt_iff_toInt_lt] at *; have e0 : (0 : Int32).toInt = 0 := rfl; have e1 : (1 : Int32).toInt = 1 := rfl; omega
  have h9 : ¬ nI 9 ≤ x := by intro z; rw [Int32.le_iff_toInt_le] at *; have e0 : (nI 9).toInt = 9 := rfl; have e1 : (8 : Int32).toInt = 8 := rfl; omega
  obtain ⟨j, hj, rfl⟩ := nIv h0 h9 (by decide)
  refine ⟨j, ?_, by omega, rfl⟩
  rcases Nat.eq_zero_or_pos j with rfl | z
  · exact absurd (show nI 0 < 1 by decide) h1
  · exact z
theorem ivQ {x : Int32} (h1 : ¬ x < 0) (h2 : ¬ 7 < x) : ∃ w, w < 8 ∧ x = nI w := by
  have h9 : ¬ nI 8 ≤ x := by intro z; apply h2; rw [Int32.le_iff_toInt_le] at z; rw [Int32.lt_iff_toInt_lt]; have e0 : (nI 8).toInt = 8 := rfl; have e1 : (7 : Int32).toInt = 7 := rfl; omega
  exact nIv h1 h9 (by decide)
/-- a command given -/
def rCm1 (s : rS) (c : Nat) (k v p : Int32) : rS := (s.1, up2 (up2 (up2 (up2 (up2 (up2 s.2 30 c (s.2 30 c + 1)) 32 c k) 33 c v) 34 c ((1 <<< (p &&& 31)) - 1)) 31 c 1) 35 c 0)
def rCmd (s : rS) (R : Nat) (x k v p : Int32) : Int32 × rS :=
  if (x < 0 ∨ s.1 34 ≤ x) ∨ ¬ s.2 28 x.toNatClampNeg = 0 then (-1, s) else
  if s.2 31 x.toNatClampNeg = 1 then (-2, s) else
  if k < 0 ∨ 7 < k ∨ p < 1 ∨ ¬ p ≤ 8 then (-3, s) else
  ((rAtt (rCm1 s x.toNatClampNeg k v p) R x.toNatClampNeg).2 30 x.toNatClampNeg - 1, rAtt (rCm1 s x.toNatClampNeg k v p) R x.toNatClampNeg)
set_option maxRecDepth 100000 in
set_option maxHeartbeats 4000000 in
theorem rc93 {E : xE} {M0 M : xM} {m nx R X : Nat} {s : rS} {x k v p : Int32} {Q : Option Value → xM → Nat → Prop} (hb : xb E ≤ m) (h : rR M0 M m s) (hR : R ≤ 6) (h9 : s.1 9 = nI R) (hnx : ∀ k, k < 48 → rRt (s.2 8 k)) (hX : X ≤ 12) (hs : s.1 34 = nI X) (hse : ∀ c, c < X → rSe s c) (hl : ∀ i, i < 16 → ∃ L, L ≤ 8 ∧ s.2 20 i = nI L)
    (hq : ∀ M', rR M0 M' m (rCmd s R x k v p).2 → Q (some (.int (rCmd s R x k v p).1)) M' nx) : XC E 93 [.ref m, .int x, .int k, .int v, .int p] M nx Q := by
  refine XC.run 60 [68, 75, 82, 94, 101, 108] ?_
  simp only [n93, n114, t93, ↓xh, ↓xst, ↓xrunE, ↓rG, rL, rSt, updA, List.elem_nil, List.elem_cons, Nat.reduceBEq, Bool.false_eq_true, if_false, if_true, true_and, and_true, true_or, or_true, not_false_eq_true, Nat.reduceAdd, Nat.reduceSub, Nat.reduceLeDiff, Nat.reduceEqDiff, Nat.reduceLT, ↓reduceIte, List.length_cons, List.length_nil, List.set_cons_zero, List.set_cons_succ, Nat.le_refl, Nat.zero_le, Nat.zero_sub, Nat.sub_zero, List.nil_append, List.cons_append, Option.toList_some, Option.toList_none, eq_self, ↓rO1 h.1]
  refine rc114 h.1 ?_
  by_cases c1 : x < 0 ∨ s.1 34 ≤ x
  · rw [rCmd, if_pos (Or.inl c1)] at hq
    refine XZ.runH 60 [] ?_
    simp only [n93, t93, ↓xh, ↓xst, ↓xrunE, ↓rG, rL, rSt, updA, List.elem_nil, List.elem_cons, Nat.reduceBEq, Bool.false_eq_true, if_false, if_true, true_and, and_true, true_or, or_true, not_false_eq_true, Nat.reduceAdd, Nat.reduceSub, Nat.reduceLeDiff, Nat.reduceEqDiff, Nat.reduceLT, ↓reduceIte, List.length_cons, List.length_nil, List.set_cons_zero, List.set_cons_succ, Nat.le_refl, Nat.zero_le, Nat.zero_sub, Nat.sub_zero, List.nil_append, List.cons_append, Option.toList_some, Option.toList_none, eq_self, c1]
    exact hq M h
  obtain ⟨c, hcX, rfl⟩ := nIv (X := X) (fun z => c1 (Or.inl z)) (fun z => c1 (Or.inr (by rw [hs]; exact z))) (by omega)
  have ic := nIx (show c < 12 by omega)
  rw [if_neg c1]
  by_cases c2 : s.2 28 c = 0
  rotate_left
  · rw [rCmd, if_pos (Or.inr (by rw [nI_clamp (by omega)]; exact c2))] at hq
    refine XZ.runH 60 [] ?_
    simp only [n93, t93, ↓xh, ↓xst, ↓xrunE, ↓rG, rL, rSt, updA, List.elem_nil, List.elem_cons, Nat.reduceBEq, Bool.false_eq_true, if_false, if_true, true_and, and_true, true_or, or_true, not_false_eq_true, Nat.reduceAdd, Nat.reduceSub, Nat.reduceLeDiff, Nat.reduceEqDiff, Nat.reduceLT, ↓reduceIte, List.length_cons, List.length_nil, List.set_cons_zero, List.set_cons_succ, Nat.le_refl, Nat.zero_le, Nat.zero_sub, Nat.sub_zero, List.nil_append, List.cons_append, Option.toList_some, Option.toList_none, eq_self, c1, show ¬ (1 : Int32) = 0 by decide, ↓rO1 h.1, ↓rB h.1, ic, c2]
    exact hq M h
  rw [rCmd, nI_clamp (by omega), if_neg (by simp [c1, c2])] at hq
  by_cases c3 : s.2 31 c = 1
  · rw [if_pos c3] at hq
    refine XZ.runH 60 [] ?_
    simp only [n93, t93, ↓xh, ↓xst, ↓xrunE, ↓rG, rL, rSt, updA, List.elem_nil, List.elem_cons, Nat.reduceBEq, Bool.false_eq_true, if_false, if_true, true_and, and_true, true_or, or_true, not_false_eq_true, Nat.reduceAdd, Nat.reduceSub, Nat.reduceLeDiff, Nat.reduceEqDiff, Nat.reduceLT, ↓reduceIte, List.length_cons, List.length_nil, List.set_cons_zero, List.set_cons_succ, Nat.le_refl, Nat.zero_le, Nat.zero_sub, Nat.sub_zero, List.nil_append, List.cons_append, Option.toList_some, Option.toList_none, eq_self, c1, show ¬ (1 : Int32) = 0 by decide, ↓rO1 h.1, ↓rB h.1, ic, c2, c3]
    exact hq M h
  rw [if_neg c3] at hq
  by_cases d1 : k < 0
  · rw [if_pos (Or.inl d1)] at hq
    refine XZ.runH 60 [] ?_
    simp only [n93, t93, ↓xh, ↓xst, ↓xrunE, ↓rG, rL, rSt, updA, List.elem_nil, List.elem_cons, Nat.reduceBEq, Bool.false_eq_true, if_false, if_true, true_and, and_true, true_or, or_true, not_false_eq_true, Nat.reduceAdd, Nat.reduceSub, Nat.reduceLeDiff, Nat.reduceEqDiff, Nat.reduceLT, ↓reduceIte, List.length_cons, List.length_nil, List.set_cons_zero, List.set_cons_succ, Nat.le_refl, Nat.zero_le, Nat.zero_sub, Nat.sub_zero, List.nil_append, List.cons_append, Option.toList_some, Option.toList_none, eq_self, c1, show ¬ (1 : Int32) = 0 by decide, ↓rO1 h.1, ↓rB h.1, ic, c2, c3, d1]
    exact hq M h
  by_cases d2 : 7 < k
  · rw [if_pos (Or.inr (Or.inl d2))] at hq
    refine XZ.runH 60 [] ?_
    simp only [n93, t93, ↓xh, ↓xst, ↓xrunE, ↓rG, rL, rSt, updA, List.elem_nil, List.elem_cons, Nat.reduceBEq, Bool.false_eq_true, if_false, if_true, true_and, and_true, true_or, or_true, not_false_eq_true, Nat.reduceAdd, Nat.reduceSub, Nat.reduceLeDiff, Nat.reduceEqDiff, Nat.reduceLT, ↓reduceIte, List.length_cons, List.length_nil, List.set_cons_zero, List.set_cons_succ, Nat.le_refl, Nat.zero_le, Nat.zero_sub, Nat.sub_zero, List.nil_append, List.cons_append, Option.toList_some, Option.toList_none, eq_self, c1, show ¬ (1 : Int32) = 0 by decide, ↓rO1 h.1, ↓rB h.1, ic, c2, c3, d1, lT d2]
    exact hq M h
  by_cases d3 : p < 1
  · rw [if_pos (Or.inr (Or.inr (Or.inl d3)))] at hq
    refine XZ.runH 60 [] ?_
    simp only [n93, t93, ↓xh, ↓xst, ↓xrunE, ↓rG, rL, rSt, updA, List.elem_nil, List.elem_cons, Nat.reduceBEq, Bool.false_eq_true, if_false, if_true, true_and, and_true, true_or, or_true, not_false_eq_true, Nat.reduceAdd, Nat.reduceSub, Nat.reduceLeDiff, Nat.reduceEqDiff, Nat.reduceLT, ↓reduceIte, List.length_cons, List.length_nil, List.set_cons_zero, List.set_cons_succ, Nat.le_refl, Nat.zero_le, Nat.zero_sub, Nat.sub_zero, List.nil_append, List.cons_append, Option.toList_some, Option.toList_none, eq_self, c1, show ¬ (1 : Int32) = 0 by decide, ↓rO1 h.1, ↓rB h.1, ic, c2, c3, d1, lF d2, lT d3]
    exact hq M h
  by_cases d4 : p ≤ 8
  rotate_left
  · rw [if_pos (Or.inr (Or.inr (Or.inr d4)))] at hq
    refine XZ.runH 60 [] ?_
    simp only [n93, t93, ↓xh, ↓xst, ↓xrunE, ↓rG, rL, rSt, updA, List.elem_nil, List.elem_cons, Nat.reduceBEq, Bool.false_eq_true, if_false, if_true, true_and, and_true, true_or, or_true, not_false_eq_true, Nat.reduceAdd, Nat.reduceSub, Nat.reduceLeDiff, Nat.reduceEqDiff, Nat.reduceLT, ↓reduceIte, List.length_cons, List.length_nil, List.set_cons_zero, List.set_cons_succ, Nat.le_refl, Nat.zero_le, Nat.zero_sub, Nat.sub_zero, List.nil_append, List.cons_append, Option.toList_some, Option.toList_none, eq_self, c1, show ¬ (1 : Int32) = 0 by decide, ↓rO1 h.1, ↓rB h.1, ic, c2, c3, d1, lF d2, lF d3, d4]
    exact hq M h
  rw [if_neg (by simp [d1, d2, d3, d4])] at hq
  refine XZ.runH 60 [68, 75, 82, 94, 101, 108] ?_
  simp only [n93, t93, ↓xh, ↓xst, ↓xrunE, ↓rG, rL, rSt, updA, List.elem_nil, List.elem_cons, Nat.reduceBEq, Bool.false_eq_true, if_false, if_true, true_and, and_true, true_or, or_true, not_false_eq_true, Nat.reduceAdd, Nat.reduceSub, Nat.reduceLeDiff, Nat.reduceEqDiff, Nat.reduceLT, ↓reduceIte, List.length_cons, List.length_nil, List.set_cons_zero, List.set_cons_succ, Nat.le_refl, Nat.zero_le, Nat.zero_sub, Nat.sub_zero, List.nil_append, List.cons_append, Option.toList_some, Option.toList_none, eq_self, c1, show ¬ (1 : Int32) = 0 by decide, ↓rO1 h.1, ↓rB h.1, ic, c2, c3, d1, lF d2, lF d3, d4, xn0, xbj hb]
  refine XZ.abs (h.arr 30 _ _ (by decide) (by decide)) (fun M1 h1 => ?_)
  refine XZ.runH 60 [68, 75, 82, 94, 101, 108] ?_
  simp only [n93, t93, ↓xh, ↓xst, ↓xrunE, ↓rG, rL, rSt, updA, List.elem_nil, List.elem_cons, Nat.reduceBEq, Bool.false_eq_true, if_false, if_true, true_and, and_true, true_or, or_true, not_false_eq_true, Nat.reduceAdd, Nat.reduceSub, Nat.reduceLeDiff, Nat.reduceEqDiff, Nat.reduceLT, ↓reduceIte, List.length_cons, List.length_nil, List.set_cons_zero, List.set_cons_succ, Nat.le_refl, Nat.zero_le, Nat.zero_sub, Nat.sub_zero, List.nil_append, List.cons_append, Option.toList_some, Option.toList_none, eq_self, ↓rO1 h1.1, ↓rB h1.1, ic, xn0, xbj hb]
  refine XZ.abs (h1.arr 32 _ _ (by decide) (by decide)) (fun M2 h2 => ?_)
  refine XZ.runH 60 [68, 75, 82, 94, 101, 108] ?_
  simp only [n93, t93, ↓xh, ↓xst, ↓xrunE, ↓rG, rL, rSt, updA, List.elem_nil, List.elem_cons, Nat.reduceBEq, Bool.false_eq_true, if_false, if_true, true_and, and_true, true_or, or_true, not_false_eq_true, Nat.reduceAdd, Nat.reduceSub, Nat.reduceLeDiff, Nat.reduceEqDiff, Nat.reduceLT, ↓reduceIte, List.length_cons, List.length_nil, List.set_cons_zero, List.set_cons_succ, Nat.le_refl, Nat.zero_le, Nat.zero_sub, Nat.sub_zero, List.nil_append, List.cons_append, Option.toList_some, Option.toList_none, eq_self, ↓rO1 h2.1, ↓rB h2.1, ic, xn0, xbj hb]
  refine XZ.abs (h2.arr 33 _ _ (by decide) (by decide)) (fun M3 h3 => ?_)
  refine XZ.runH 60 [68, 75, 82, 94, 101, 108] ?_
  simp only [n93, t93, ↓xh, ↓xst, ↓xrunE, ↓rG, rL, rSt, updA, List.elem_nil, List.elem_cons, Nat.reduceBEq, Bool.false_eq_true, if_false, if_true, true_and, and_true, true_or, or_true, not_false_eq_true, Nat.reduceAdd, Nat.reduceSub, Nat.reduceLeDiff, Nat.reduceEqDiff, Nat.reduceLT, ↓reduceIte, List.length_cons, List.length_nil, List.set_cons_zero, List.set_cons_succ, Nat.le_refl, Nat.zero_le, Nat.zero_sub, Nat.sub_zero, List.nil_append, List.cons_append, Option.toList_some, Option.toList_none, eq_self, ↓rO1 h3.1, ↓rB h3.1, ic, xn0, xbj hb]
  refine XZ.abs (h3.arr 34 _ _ (by decide) (by decide)) (fun M4 h4 => ?_)
  refine XZ.runH 60 [68, 75, 82, 94, 101, 108] ?_
  simp only [n93, t93, ↓xh, ↓xst, ↓xrunE, ↓rG, rL, rSt, updA, List.elem_nil, List.elem_cons, Nat.reduceBEq, Bool.false_eq_true, if_false, if_true, true_and, and_true, true_or, or_true, not_false_eq_true, Nat.reduceAdd, Nat.reduceSub, Nat.reduceLeDiff, Nat.reduceEqDiff, Nat.reduceLT, ↓reduceIte, List.length_cons, List.length_nil, List.set_cons_zero, List.set_cons_succ, Nat.le_refl, Nat.zero_le, Nat.zero_sub, Nat.sub_zero, List.nil_append, List.cons_append, Option.toList_some, Option.toList_none, eq_self, ↓rO1 h4.1, ↓rB h4.1, ic, xn0, xbj hb]
  refine XZ.abs (h4.arr 31 _ _ (by decide) (by decide)) (fun M5 h5 => ?_)
  refine XZ.runH 60 [68, 75, 82, 94, 101, 108] ?_
  simp only [n93, t93, ↓xh, ↓xst, ↓xrunE, ↓rG, rL, rSt, updA, List.elem_nil, List.elem_cons, Nat.reduceBEq, Bool.false_eq_true, if_false, if_true, true_and, and_true, true_or, or_true, not_false_eq_true, Nat.reduceAdd, Nat.reduceSub, Nat.reduceLeDiff, Nat.reduceEqDiff, Nat.reduceLT, ↓reduceIte, List.length_cons, List.length_nil, List.set_cons_zero, List.set_cons_succ, Nat.le_refl, Nat.zero_le, Nat.zero_sub, Nat.sub_zero, List.nil_append, List.cons_append, Option.toList_some, Option.toList_none, eq_self, ↓rO1 h5.1, ↓rB h5.1, ic, xn0, xbj hb]
  refine XZ.abs (h5.arr 35 _ _ (by decide) (by decide)) (fun M6 h6 => ?_)
  have h6' : rR M0 M6 m (rCm1 s c k v p) := h6
  refine XZ.runH 60 [] ?_
  simp only [n93, n112, t93, ↓xh, ↓xst, ↓xrunE, ↓rG, rL, rSt, updA, List.elem_nil, List.elem_cons, Nat.reduceBEq, Bool.false_eq_true, if_false, if_true, true_and, and_true, true_or, or_true, not_false_eq_true, Nat.reduceAdd, Nat.reduceSub, Nat.reduceLeDiff, Nat.reduceEqDiff, Nat.reduceLT, ↓reduceIte, List.length_cons, List.length_nil, List.set_cons_zero, List.set_cons_succ, Nat.le_refl, Nat.zero_le, Nat.zero_sub, Nat.sub_zero, List.nil_append, List.cons_append, Option.toList_some, Option.toList_none, eq_self, ↓rO1 h6'.1]
  have z : ∀ j, j ≠ 30 → j ≠ 32 → j ≠ 33 → j ≠ 34 → j ≠ 31 → j ≠ 35 → (rCm1 s c k v p).2 j = s.2 j := fun j n1 n2 n3 n4 n5 n6 => by
    rw [rCm1]; dsimp only; rw [up2_n n6, up2_n n5, up2_n n4, up2_n n3, up2_n n2, up2_n n1]
  obtain ⟨q, hq8, rfl⟩ := ivQ d1 d2
  refine rc112 (R := R) hb h6' ⟨hR, h9, ?_, ?_, ?_, q, hq8, ?_⟩ (fun M7 h7 => ?_)
  · rw [z 8 (by decide) (by decide) (by decide) (by decide) (by decide) (by decide)]; exact hnx
  · obtain ⟨hc, A, i, B, hA, hA', hi, hi', hB, hB', eA, ei, eB⟩ := hse c hcX
    refine rSe_mk hc (A := A) (i := i) (B := B) ?_ hA' ?_ hi' ?_ hB'
    · rw [z 26 (by decide) (by decide) (by decide) (by decide) (by decide) (by decide)]; exact hA
    · rw [z 27 (by decide) (by decide) (by decide) (by decide) (by decide) (by decide)]; exact hi
    · rw [z 16 (by decide) (by decide) (by decide) (by decide) (by decide) (by decide)]; exact hB
  · rw [z 20 (by decide) (by decide) (by decide) (by decide) (by decide) (by decide)]; exact hl
  · rw [rCm1]; simp [up2]
  · refine XZ.runH 60 [] ?_
    simp only [n93, t93, ↓xh, ↓xst, ↓xrunE, ↓rG, rL, rSt, updA, List.elem_nil, List.elem_cons, Nat.reduceBEq, Bool.false_eq_true, if_false, if_true, true_and, and_true, true_or, or_true, not_false_eq_true, Nat.reduceAdd, Nat.reduceSub, Nat.reduceLeDiff, Nat.reduceEqDiff, Nat.reduceLT, ↓reduceIte, List.length_cons, List.length_nil, List.set_cons_zero, List.set_cons_succ, Nat.le_refl, Nat.zero_le, Nat.zero_sub, Nat.sub_zero, List.nil_append, List.cons_append, Option.toList_some, Option.toList_none, eq_self, ↓rO1 h7.1, ↓rB h7.1, ic]
    exact hq M7 h7
/-- a session opened -/
def rOpen (s : rS) (R S X : Nat) (a i : Int32) : Int32 × rS :=
  if rIsNode s a = false ∨ i < 0 ∨ nI S ≤ i ∨ ¬ s.2 17 i.toNatClampNeg = 0 then (-1, s) else
  if rWay s R (a.toNatClampNeg / 8) ((s.2 16 i.toNatClampNeg).toNatClampNeg / 8) < 0 ∨ rWay s R ((s.2 16 i.toNatClampNeg).toNatClampNeg / 8) (a.toNatClampNeg / 8) < 0 then (-2, s) else
  if ¬ X < 12 then (-3, s) else (nI X, (upd s.1 34 (nI (X + 1)), up2 (up2 s.2 26 X a) 27 X i))
theorem rIsNode_v {s : rS} {a : Int32} (h : rIsNode s a = true) : ∃ A, A < 64 ∧ a = nI A := by
  simp only [rIsNode, Bool.and_eq_true, decide_eq_true_eq] at h
  exact nIv (X := 64) h.1.1 h.1.2 (by decide)
set_option maxRecDepth 100000 in
set_option maxHeartbeats 4000000 in
theorem rc92 {E : xE} {M0 M : xM} {m nx R S X : Nat} {s : rS} {a i : Int32} {Q : Option Value → xM → Nat → Prop} (hb : xb E ≤ m) (h : rR M0 M m s) (hR : R ≤ 6) (h9 : s.1 9 = nI R) (hnx : ∀ k, k < 48 → rRt (s.2 8 k)) (hS : S ≤ 16) (h22 : s.1 22 = nI S) (hX : X ≤ 12) (h34 : s.1 34 = nI X) (hh : ∀ i, i < S → ∃ B, B < 64 ∧ s.2 16 i = nI B)
    (hq : ∀ M', rR M0 M' m (rOpen s R S X a i).2 → Q (some (.int (rOpen s R S X a i).1)) M' nx) : XC E 92 [.ref m, .int a, .int i] M nx Q := by
  refine XC.run 60 [92, 102, 112] ?_
  simp only [n92, n103, t92, ↓xh, ↓xst, ↓xrunE, ↓rG, rL, rSt, updA, List.elem_nil, List.elem_cons, Nat.reduceBEq, Bool.false_eq_true, if_false, if_true, true_and, and_true, true_or, or_true, not_false_eq_true, Nat.reduceAdd, Nat.reduceSub, Nat.reduceLeDiff, Nat.reduceEqDiff, Nat.reduceLT, ↓reduceIte, List.length_cons, List.length_nil, List.set_cons_zero, List.set_cons_succ, Nat.le_refl, Nat.zero_le, Nat.zero_sub, Nat.sub_zero, List.nil_append, List.cons_append, Option.toList_some, Option.toList_none, eq_self, ↓rO1 h.1]
  refine rc103 h.1 ?_
  by_cases c1 : rIsNode s a = true
  rotate_left
  · rw [rOpen, if_pos (Or.inl (by simpa using c1))] at hq
    refine XZ.runH 60 [] ?_
    simp only [n92, t92, ↓xh, ↓xst, ↓xrunE, ↓rG, rL, rSt, updA, List.elem_nil, List.elem_cons, Nat.reduceBEq, Bool.false_eq_true, if_false, if_true, true_and, and_true, true_or, or_true, not_false_eq_true, Nat.reduceAdd, Nat.reduceSub, Nat.reduceLeDiff, Nat.reduceEqDiff, Nat.reduceLT, ↓reduceIte, List.length_cons, List.length_nil, List.set_cons_zero, List.set_cons_succ, Nat.le_refl, Nat.zero_le, Nat.zero_sub, Nat.sub_zero, List.nil_append, List.cons_append, Option.toList_some, Option.toList_none, eq_self, c1]
    exact hq M h
  by_cases c2 : i < 0
  · rw [rOpen, if_pos (Or.inr (Or.inl c2))] at hq
    refine XZ.runH 60 [] ?_
    simp only [n92, t92, ↓xh, ↓xst, ↓xrunE, ↓rG, rL, rSt, updA, List.elem_nil, List.elem_cons, Nat.reduceBEq, Bool.false_eq_true, if_false, if_true, true_and, and_true, true_or, or_true, not_false_eq_true, Nat.reduceAdd, Nat.reduceSub, Nat.reduceLeDiff, Nat.reduceEqDiff, Nat.reduceLT, ↓reduceIte, List.length_cons, List.length_nil, List.set_cons_zero, List.set_cons_succ, Nat.le_refl, Nat.zero_le, Nat.zero_sub, Nat.sub_zero, List.nil_append, List.cons_append, Option.toList_some, Option.toList_none, eq_self, c1, show ¬ (1 : Int32) = 0 by decide, c2]
    exact hq M h
  by_cases c3 : nI S ≤ i
  · rw [rOpen, if_pos (Or.inr (Or.inr (Or.inl c3)))] at hq
    refine XZ.runH 60 [] ?_
    simp only [n92, t92, ↓xh, ↓xst, ↓xrunE, ↓rG, rL, rSt, updA, List.elem_nil, List.elem_cons, Nat.reduceBEq, Bool.false_eq_true, if_false, if_true, true_and, and_true, true_or, or_true, not_false_eq_true, Nat.reduceAdd, Nat.reduceSub, Nat.reduceLeDiff, Nat.reduceEqDiff, Nat.reduceLT, ↓reduceIte, List.length_cons, List.length_nil, List.set_cons_zero, List.set_cons_succ, Nat.le_refl, Nat.zero_le, Nat.zero_sub, Nat.sub_zero, List.nil_append, List.cons_append, Option.toList_some, Option.toList_none, eq_self, c1, show ¬ (1 : Int32) = 0 by decide, c2, ↓rO1 h.1, h22, c3]
    exact hq M h
  obtain ⟨j, hj, rfl⟩ := nIv c2 c3 (by omega)
  obtain ⟨A, hA, rfl⟩ := rIsNode_v c1
  obtain ⟨B, hB, eB⟩ := hh j hj
  have ij := nIx (show j < 16 by omega)
  by_cases c4 : s.2 17 j = 0
  rotate_left
  · rw [rOpen, if_pos (Or.inr (Or.inr (Or.inr (by rw [nI_clamp (by omega)]; exact c4))))] at hq
    refine XZ.runH 60 [] ?_
    simp only [n92, t92, ↓xh, ↓xst, ↓xrunE, ↓rG, rL, rSt, updA, List.elem_nil, List.elem_cons, Nat.reduceBEq, Bool.false_eq_true, if_false, if_true, true_and, and_true, true_or, or_true, not_false_eq_true, Nat.reduceAdd, Nat.reduceSub, Nat.reduceLeDiff, Nat.reduceEqDiff, Nat.reduceLT, ↓reduceIte, List.length_cons, List.length_nil, List.set_cons_zero, List.set_cons_succ, Nat.le_refl, Nat.zero_le, Nat.zero_sub, Nat.sub_zero, List.nil_append, List.cons_append, Option.toList_some, Option.toList_none, eq_self, c1, show ¬ (1 : Int32) = 0 by decide, c2, ↓rO1 h.1, ↓rB h.1, h22, c3, ij, c4]
    exact hq M h
  rw [rOpen, nI_clamp (show j < 2 ^ 31 by omega), nI_clamp (show A < 2 ^ 31 by omega), eB, nI_clamp (show B < 2 ^ 31 by omega), if_neg (by simp [c1, c2, c3, c4])] at hq
  refine XZ.runH 60 [] ?_
  simp only [n92, n113, t92, ↓xh, ↓xst, ↓xrunE, ↓rG, rL, rSt, updA, List.elem_nil, List.elem_cons, Nat.reduceBEq, Bool.false_eq_true, if_false, if_true, true_and, and_true, true_or, or_true, not_false_eq_true, Nat.reduceAdd, Nat.reduceSub, Nat.reduceLeDiff, Nat.reduceEqDiff, Nat.reduceLT, ↓reduceIte, List.length_cons, List.length_nil, List.set_cons_zero, List.set_cons_succ, Nat.le_refl, Nat.zero_le, Nat.zero_sub, Nat.sub_zero, List.nil_append, List.cons_append, Option.toList_some, Option.toList_none, eq_self, c1, show ¬ (1 : Int32) = 0 by decide, c2, ↓rO1 h.1, ↓rB h.1, h22, c3, ij, c4, eB, nI_div8 A hA, nI_div8 B hB, show ¬ (8 : Int32) = 0 by decide]
  refine rc113 (a := A / 8) (b := B / 8) h.1 hR h9 (by omega) (by omega) hnx ?_
  by_cases w1 : rWay s R (A / 8) (B / 8) < 0
  · rw [if_pos (Or.inl w1)] at hq
    refine XZ.runH 60 [] ?_
    simp only [n92, t92, ↓xh, ↓xst, ↓xrunE, ↓rG, rL, rSt, updA, List.elem_nil, List.elem_cons, Nat.reduceBEq, Bool.false_eq_true, if_false, if_true, true_and, and_true, true_or, or_true, not_false_eq_true, Nat.reduceAdd, Nat.reduceSub, Nat.reduceLeDiff, Nat.reduceEqDiff, Nat.reduceLT, ↓reduceIte, List.length_cons, List.length_nil, List.set_cons_zero, List.set_cons_succ, Nat.le_refl, Nat.zero_le, Nat.zero_sub, Nat.sub_zero, List.nil_append, List.cons_append, Option.toList_some, Option.toList_none, eq_self, lT w1]
    exact hq M h
  refine XZ.runH 60 [] ?_
  simp only [n92, n113, t92, ↓xh, ↓xst, ↓xrunE, ↓rG, rL, rSt, updA, List.elem_nil, List.elem_cons, Nat.reduceBEq, Bool.false_eq_true, if_false, if_true, true_and, and_true, true_or, or_true, not_false_eq_true, Nat.reduceAdd, Nat.reduceSub, Nat.reduceLeDiff, Nat.reduceEqDiff, Nat.reduceLT, ↓reduceIte, List.length_cons, List.length_nil, List.set_cons_zero, List.set_cons_succ, Nat.le_refl, Nat.zero_le, Nat.zero_sub, Nat.sub_zero, List.nil_append, List.cons_append, Option.toList_some, Option.toList_none, eq_self, lF w1, ↓rO1 h.1]
  refine rc113 (a := B / 8) (b := A / 8) h.1 hR h9 (by omega) (by omega) hnx ?_
  by_cases w2 : rWay s R (B / 8) (A / 8) < 0
  · rw [if_pos (Or.inr w2)] at hq
    refine XZ.runH 60 [] ?_
    simp only [n92, t92, ↓xh, ↓xst, ↓xrunE, ↓rG, rL, rSt, updA, List.elem_nil, List.elem_cons, Nat.reduceBEq, Bool.false_eq_true, if_false, if_true, true_and, and_true, true_or, or_true, not_false_eq_true, Nat.reduceAdd, Nat.reduceSub, Nat.reduceLeDiff, Nat.reduceEqDiff, Nat.reduceLT, ↓reduceIte, List.length_cons, List.length_nil, List.set_cons_zero, List.set_cons_succ, Nat.le_refl, Nat.zero_le, Nat.zero_sub, Nat.sub_zero, List.nil_append, List.cons_append, Option.toList_some, Option.toList_none, eq_self, lT w2]
    exact hq M h
  rw [if_neg (by simp only [w1, w2, or_self, not_false_iff])] at hq
  by_cases c5 : X < 12
  rotate_left
  · rw [if_pos c5] at hq
    obtain rfl : X = 12 := by omega
    refine XZ.runH 60 [] ?_
    simp only [n92, t92, ↓xh, ↓xst, ↓xrunE, ↓rG, rL, rSt, updA, List.elem_nil, List.elem_cons, Nat.reduceBEq, Bool.false_eq_true, if_false, if_true, true_and, and_true, true_or, or_true, not_false_eq_true, Nat.reduceAdd, Nat.reduceSub, Nat.reduceLeDiff, Nat.reduceEqDiff, Nat.reduceLT, ↓reduceIte, List.length_cons, List.length_nil, List.set_cons_zero, List.set_cons_succ, Nat.le_refl, Nat.zero_le, Nat.zero_sub, Nat.sub_zero, List.nil_append, List.cons_append, Option.toList_some, Option.toList_none, eq_self, lF w2, ↓rO1 h.1, h34, show ¬ nI 12 < 12 by decide]
    exact hq M h
  rw [if_neg (by simp [c5])] at hq
  have iX := nIx c5
  have lX : nI X < 12 := k2_lt (nI_ge c5 (by decide))
  refine XZ.runH 60 [92, 102, 112] ?_
  simp only [n92, t92, ↓xh, ↓xst, ↓xrunE, ↓rG, rL, rSt, updA, List.elem_nil, List.elem_cons, Nat.reduceBEq, Bool.false_eq_true, if_false, if_true, true_and, and_true, true_or, or_true, not_false_eq_true, Nat.reduceAdd, Nat.reduceSub, Nat.reduceLeDiff, Nat.reduceEqDiff, Nat.reduceLT, ↓reduceIte, List.length_cons, List.length_nil, List.set_cons_zero, List.set_cons_succ, Nat.le_refl, Nat.zero_le, Nat.zero_sub, Nat.sub_zero, List.nil_append, List.cons_append, Option.toList_some, Option.toList_none, eq_self, lF w2, ↓rO1 h.1, ↓rB h.1, h34, lX, iX, xn0, xbj hb]
  refine XZ.abs (h.arr 26 _ _ (by decide) (by decide)) (fun M1 h1 => ?_)
  refine XZ.runH 60 [92, 102, 112] ?_
  simp only [n92, t92, ↓xh, ↓xst, ↓xrunE, ↓rG, rL, rSt, updA, List.elem_nil, List.elem_cons, Nat.reduceBEq, Bool.false_eq_true, if_false, if_true, true_and, and_true, true_or, or_true, not_false_eq_true, Nat.reduceAdd, Nat.reduceSub, Nat.reduceLeDiff, Nat.reduceEqDiff, Nat.reduceLT, ↓reduceIte, List.length_cons, List.length_nil, List.set_cons_zero, List.set_cons_succ, Nat.le_refl, Nat.zero_le, Nat.zero_sub, Nat.sub_zero, List.nil_append, List.cons_append, Option.toList_some, Option.toList_none, eq_self, ↓rO1 h1.1, ↓rB h1.1, h34, iX, xn0, xbj hb]
  refine XZ.abs (h1.arr 27 _ _ (by decide) (by decide)) (fun M2 h2 => ?_)
  refine XZ.runH 60 [92, 102, 112] ?_
  simp only [n92, t92, ↓xh, ↓xst, ↓xrunE, ↓rG, rL, rSt, updA, List.elem_nil, List.elem_cons, Nat.reduceBEq, Bool.false_eq_true, if_false, if_true, true_and, and_true, true_or, or_true, not_false_eq_true, Nat.reduceAdd, Nat.reduceSub, Nat.reduceLeDiff, Nat.reduceEqDiff, Nat.reduceLT, ↓reduceIte, List.length_cons, List.length_nil, List.set_cons_zero, List.set_cons_succ, Nat.le_refl, Nat.zero_le, Nat.zero_sub, Nat.sub_zero, List.nil_append, List.cons_append, Option.toList_some, Option.toList_none, eq_self, ↓rO1 h2.1, h34, nI_1, xbj hb, hb]
  refine XZ.abs h2.fl (fun M3 h3 => ?_)
  refine XZ.runH 60 [] ?_
  simp only [n92, t92, ↓xh, ↓xst, ↓xrunE, ↓rG, rL, rSt, updA, List.elem_nil, List.elem_cons, Nat.reduceBEq, Bool.false_eq_true, if_false, if_true, true_and, and_true, true_or, or_true, not_false_eq_true, Nat.reduceAdd, Nat.reduceSub, Nat.reduceLeDiff, Nat.reduceEqDiff, Nat.reduceLT, ↓reduceIte, List.length_cons, List.length_nil, List.set_cons_zero, List.set_cons_succ, Nat.le_refl, Nat.zero_le, Nat.zero_sub, Nat.sub_zero, List.nil_append, List.cons_append, Option.toList_some, Option.toList_none, eq_self, ↓rO1 h3.1, updA, nI_pred]
  exact hq M3 h3
