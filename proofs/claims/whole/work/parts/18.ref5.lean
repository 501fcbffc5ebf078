theorem up2A (a : Nat → Nat → Int32) (j i : Nat) (x : Int32) (j' i' : Nat) : up2 a j i x j' i' = if j' = j then (if i' = i then x else a j i') else a j' i' := rfl
/-- the bits of a mask: how many, or none where one is beyond the networks -/
def rBit (mask : Int32) (k : Nat) : Bool := decide ((mask >>> (nI k &&& 31)) &&& 1 = 1)
def rMk (mask : Int32) (N : Nat) : Nat → Nat → Nat → Option Nat
  | 0, _, c => some c
  | l + 1, k, c => if rBit mask k then (if N ≤ k then none else rMk mask N l (k + 1) (c + 1)) else rMk mask N l (k + 1) c
set_option maxRecDepth 100000 in
set_option maxHeartbeats 4000000 in
theorem rl82 {E : xE} {M : xM} {m nx N : Nat} {mask : Int32} {s : rS} {Q : Option Value → xM → Nat → Prop} (h : rRep M m s) (hN : N ≤ 8) (hs : s.1 7 = nI N) : ∀ l k c v4, k + l = 32 → c ≤ k → (rMk mask N l k c = none → Q (some (.int (-1))) M nx) →
    (∀ c' v4, rMk mask N l k c = some c' → c' ≤ 32 → XZ E 82 (xZ E 82 Q) 60 [some (.ref m), some (.int mask), some (.int (nI c')), some (.int (nI 32)), v4] [] M nx 0 0) →
    XZ E 82 (xZ E 82 Q) 4 [some (.ref m), some (.int mask), some (.int (nI c)), some (.int (nI k)), v4] [] M nx 0 0 := by
  intro l
  induction l with
  | zero =>
    intro k c v4 hk hc h1 h2
    obtain rfl : k = 32 := by omega
    refine XZ.runH 60 [4, 60] ?_
    simp only [n82, t82, ↓xh, ↓xst, ↓xrunE, ↓rG, rL, rSt, updA, List.elem_nil, List.elem_cons, Nat.reduceBEq, Bool.false_eq_true, if_false, if_true, true_and, and_true, true_or, or_true, not_false_eq_true, Nat.reduceAdd, Nat.reduceSub, Nat.reduceLeDiff, Nat.reduceEqDiff, Nat.reduceLT, ↓reduceIte, List.length_cons, List.length_nil, List.set_cons_zero, List.set_cons_succ, Nat.le_refl, Nat.zero_le, Nat.zero_sub, Nat.sub_zero, List.nil_append, List.cons_append, Option.toList_some, Option.toList_none, eq_self, show (32 : Int32) ≤ nI 32 by decide]
    exact h2 c v4 rfl hc
  | succ l ih =>
    intro k c v4 hk hc h1 h2
    have g : ¬ (32 : Int32) ≤ nI k := nI_ge (show k < 32 by omega) (by decide)
    refine XZ.runH 60 [4, 60] ?_
    by_cases b : rBit mask k = true
    · have b2 : (mask >>> (nI k &&& 31)) &&& 1 = 1 := of_decide_eq_true b
      by_cases d : N ≤ k
      · simp only [n82, t82, ↓xh, ↓xst, ↓xrunE, ↓rG, rL, rSt, updA, List.elem_nil, List.elem_cons, Nat.reduceBEq, Bool.false_eq_true, if_false, if_true, true_and, and_true, true_or, or_true, not_false_eq_true, Nat.reduceAdd, Nat.reduceSub, Nat.reduceLeDiff, Nat.reduceEqDiff, Nat.reduceLT, ↓reduceIte, List.length_cons, List.length_nil, List.set_cons_zero, List.set_cons_succ, Nat.le_refl, Nat.zero_le, Nat.zero_sub, Nat.sub_zero, List.nil_append, List.cons_append, Option.toList_some, Option.toList_none, eq_self, ↓rO1 h, hs, g, b2, show ¬ (1 : Int32) = 0 by decide, eT (nI_le d (show k < 2 ^ 31 by omega))]
        exact h1 (by rw [rMk, if_pos b, if_pos d])
      · simp only [n82, t82, ↓xh, ↓xst, ↓xrunE, ↓rG, rL, rSt, updA, List.elem_nil, List.elem_cons, Nat.reduceBEq, Bool.false_eq_true, if_false, if_true, true_and, and_true, true_or, or_true, not_false_eq_true, Nat.reduceAdd, Nat.reduceSub, Nat.reduceLeDiff, Nat.reduceEqDiff, Nat.reduceLT, ↓reduceIte, List.length_cons, List.length_nil, List.set_cons_zero, List.set_cons_succ, Nat.le_refl, Nat.zero_le, Nat.zero_sub, Nat.sub_zero, List.nil_append, List.cons_append, Option.toList_some, Option.toList_none, eq_self, ↓rO1 h, hs, g, b2, show ¬ (1 : Int32) = 0 by decide, eF (nI_ge (Nat.not_le.mp d) (show N < 2 ^ 31 by omega)), nI_1]
        rw [rMk, if_pos b, if_neg d] at h1 h2
        exact ih (k + 1) (c + 1) _ (by omega) (by omega) h1 h2
    · have b2 : ¬ (mask >>> (nI k &&& 31)) &&& 1 = 1 := fun z => b (decide_eq_true z)
      simp only [n82, t82, ↓xh, ↓xst, ↓xrunE, ↓rG, rL, rSt, updA, List.elem_nil, List.elem_cons, Nat.reduceBEq, Bool.false_eq_true, if_false, if_true, true_and, and_true, true_or, or_true, not_false_eq_true, Nat.reduceAdd, Nat.reduceSub, Nat.reduceLeDiff, Nat.reduceEqDiff, Nat.reduceLT, ↓reduceIte, List.length_cons, List.length_nil, List.set_cons_zero, List.set_cons_succ, Nat.le_refl, Nat.zero_le, Nat.zero_sub, Nat.sub_zero, List.nil_append, List.cons_append, Option.toList_some, Option.toList_none, eq_self, ↓rO1 h, hs, g, b2, nI_1]
      rw [rMk, if_neg b] at h1 h2
      exact ih (k + 1) c _ (by omega) (by omega) h1 h2
def rRouter (s : rS) (R N : Nat) (mask : Int32) : Int32 × rS := match rMk mask N 32 0 0 with
  | none => (-1, s)
  | some c => if c < 2 ∨ 4 < c ∨ 6 ≤ R then (-1, s) else (nI R, (upd s.1 9 (nI (R + 1)), (rFresh (s.1, up2 (up2 s.2 5 R mask) 6 R 1) R).2))
set_option maxRecDepth 100000 in
set_option maxHeartbeats 4000000 in
theorem rc82 {E : xE} {M0 M : xM} {m nx R N : Nat} {s : rS} {mask : Int32} {Q : Option Value → xM → Nat → Prop} (hb : xb E ≤ m) (h : rR M0 M m s) (hR : R ≤ 6) (hs : s.1 9 = nI R) (hN : N ≤ 8) (hsN : s.1 7 = nI N)
    (hq : ∀ M', rR M0 M' m (rRouter s R N mask).2 → Q (some (.int (rRouter s R N mask).1)) M' nx) : XC E 82 [.ref m, .int mask] M nx Q := by
  refine XC.run 60 [4] ?_
  simp only [n82, t82, ↓xh, ↓xst, ↓xrunE, ↓rG, rL, rSt, updA, List.elem_nil, List.elem_cons, Nat.reduceBEq, Bool.false_eq_true, if_false, if_true, true_and, and_true, true_or, or_true, not_false_eq_true, Nat.reduceAdd, Nat.reduceSub, Nat.reduceLeDiff, Nat.reduceEqDiff, Nat.reduceLT, ↓reduceIte, List.length_cons, List.length_nil, List.set_cons_zero, List.set_cons_succ, Nat.le_refl, Nat.zero_le, Nat.zero_sub, Nat.sub_zero, List.nil_append, List.cons_append, Option.toList_some, Option.toList_none, eq_self]
  refine rl82 h.1 hN hsN 32 0 0 _ rfl (by omega) (fun z => ?_) (fun c v4 z hc => ?_)
  · rw [rRouter, z] at hq
    exact hq M h
  · rw [rRouter, z] at hq
    dsimp only at hq
    refine XZ.runH 60 [91, 101, 119] ?_
    by_cases d : c < 2
    · rw [if_pos (Or.inl d)] at hq
      simp only [n82, t82, ↓xh, ↓xst, ↓xrunE, ↓rG, rL, rSt, updA, List.elem_nil, List.elem_cons, Nat.reduceBEq, Bool.false_eq_true, if_false, if_true, true_and, and_true, true_or, or_true, not_false_eq_true, Nat.reduceAdd, Nat.reduceSub, Nat.reduceLeDiff, Nat.reduceEqDiff, Nat.reduceLT, ↓reduceIte, List.length_cons, List.length_nil, List.set_cons_zero, List.set_cons_succ, Nat.le_refl, Nat.zero_le, Nat.zero_sub, Nat.sub_zero, List.nil_append, List.cons_append, Option.toList_some, Option.toList_none, eq_self, lT (show nI c < 2 from nI_lt d (by decide))]
      exact hq M h
    · have d' := lF (show ¬ nI c < 2 from nI_nlt (Nat.not_lt.mp d) (by omega))
      by_cases f : 4 < c
      · rw [if_pos (Or.inr (Or.inl f))] at hq
        simp only [n82, t82, ↓xh, ↓xst, ↓xrunE, ↓rG, rL, rSt, updA, List.elem_nil, List.elem_cons, Nat.reduceBEq, Bool.false_eq_true, if_false, if_true, true_and, and_true, true_or, or_true, not_false_eq_true, Nat.reduceAdd, Nat.reduceSub, Nat.reduceLeDiff, Nat.reduceEqDiff, Nat.reduceLT, ↓reduceIte, List.length_cons, List.length_nil, List.set_cons_zero, List.set_cons_succ, Nat.le_refl, Nat.zero_le, Nat.zero_sub, Nat.sub_zero, List.nil_append, List.cons_append, Option.toList_some, Option.toList_none, eq_self, d', lT (show (4 : Int32) < nI c from nI_lt f (by omega))]
        exact hq M h
      · have f' := lF (show ¬ (4 : Int32) < nI c from nI_nlt (Nat.not_lt.mp f) (by decide))
        by_cases e : 6 ≤ R
        · rw [if_pos (Or.inr (Or.inr e))] at hq
          simp only [n82, t82, ↓xh, ↓xst, ↓xrunE, ↓rG, rL, rSt, updA, List.elem_nil, List.elem_cons, Nat.reduceBEq, Bool.false_eq_true, if_false, if_true, true_and, and_true, true_or, or_true, not_false_eq_true, Nat.reduceAdd, Nat.reduceSub, Nat.reduceLeDiff, Nat.reduceEqDiff, Nat.reduceLT, ↓reduceIte, List.length_cons, List.length_nil, List.set_cons_zero, List.set_cons_succ, Nat.le_refl, Nat.zero_le, Nat.zero_sub, Nat.sub_zero, List.nil_append, List.cons_append, Option.toList_some, Option.toList_none, eq_self, d', f', ↓rO1 h.1, hs, eT (show (6 : Int32) ≤ nI R from nI_le e (by omega))]
          exact hq M h
        · rw [if_neg (by omega)] at hq
          simp only [n82, t82, ↓xh, ↓xst, ↓xrunE, ↓rG, rL, rSt, updA, List.elem_nil, List.elem_cons, Nat.reduceBEq, Bool.false_eq_true, if_false, if_true, true_and, and_true, true_or, or_true, not_false_eq_true, Nat.reduceAdd, Nat.reduceSub, Nat.reduceLeDiff, Nat.reduceEqDiff, Nat.reduceLT, ↓reduceIte, List.length_cons, List.length_nil, List.set_cons_zero, List.set_cons_succ, Nat.le_refl, Nat.zero_le, Nat.zero_sub, Nat.sub_zero, List.nil_append, List.cons_append, Option.toList_some, Option.toList_none, eq_self, d', f', ↓rO1 h.1, ↓rB h.1, hs, eF (show ¬ (6 : Int32) ≤ nI R from nI_ge (Nat.not_le.mp e) (by decide)), nIx (show R < 6 by omega), xn0, xbj hb]
          refine XZ.abs (h.arr 5 _ _ (by decide) (by decide)) (fun M1 h1 => ?_)
          refine XZ.runH 60 [91, 101, 119] ?_
          simp only [n82, t82, ↓xh, ↓xst, ↓xrunE, ↓rG, rL, rSt, updA, List.elem_nil, List.elem_cons, Nat.reduceBEq, Bool.false_eq_true, if_false, if_true, true_and, and_true, true_or, or_true, not_false_eq_true, Nat.reduceAdd, Nat.reduceSub, Nat.reduceLeDiff, Nat.reduceEqDiff, Nat.reduceLT, ↓reduceIte, List.length_cons, List.length_nil, List.set_cons_zero, List.set_cons_succ, Nat.le_refl, Nat.zero_le, Nat.zero_sub, Nat.sub_zero, List.nil_append, List.cons_append, Option.toList_some, Option.toList_none, eq_self, ↓rO1 h1.1, ↓rB h1.1, hs, nIx (show R < 6 by omega), xn2b, xbj hb]
          refine XZ.abs (h1.arr 6 _ _ (by decide) (by decide)) (fun M2 h2 => ?_)
          refine XZ.runH 60 [91, 101, 119] ?_
          simp only [n82, n102, t82, ↓xh, ↓xst, ↓xrunE, ↓rG, rL, rSt, updA, List.elem_nil, List.elem_cons, Nat.reduceBEq, Bool.false_eq_true, if_false, if_true, true_and, and_true, true_or, or_true, not_false_eq_true, Nat.reduceAdd, Nat.reduceSub, Nat.reduceLeDiff, Nat.reduceEqDiff, Nat.reduceLT, ↓reduceIte, List.length_cons, List.length_nil, List.set_cons_zero, List.set_cons_succ, Nat.le_refl, Nat.zero_le, Nat.zero_sub, Nat.sub_zero, List.nil_append, List.cons_append, Option.toList_some, Option.toList_none, eq_self, ↓rO1 h2.1, hs]
          refine rc102 hb (by omega) h2 (fun M3 h3 => ?_)
          have hs3 : (rPt (rFrF (s.1, up2 (up2 s.2 5 R mask) 6 R 1) R) (s.1, up2 (up2 s.2 5 R mask) 6 R 1) (8 * R) 8).1 9 = nI R := hs
          refine XZ.runH 60 [91, 101, 119] ?_
          simp only [n82, t82, ↓xh, ↓xst, ↓xrunE, ↓rG, rL, rSt, updA, List.elem_nil, List.elem_cons, Nat.reduceBEq, Bool.false_eq_true, if_false, if_true, true_and, and_true, true_or, or_true, not_false_eq_true, Nat.reduceAdd, Nat.reduceSub, Nat.reduceLeDiff, Nat.reduceEqDiff, Nat.reduceLT, ↓reduceIte, List.length_cons, List.length_nil, List.set_cons_zero, List.set_cons_succ, Nat.le_refl, Nat.zero_le, Nat.zero_sub, Nat.sub_zero, List.nil_append, List.cons_append, Option.toList_some, Option.toList_none, eq_self, ↓rO1 h3.1, hs3, nI_1, hb]
          refine XZ.abs h3.fl (fun M4 h4 => ?_)
          refine XZ.runH 60 [] ?_
          simp only [n82, t82, ↓xh, ↓xst, ↓xrunE, ↓rG, rL, rSt, updA, List.elem_nil, List.elem_cons, Nat.reduceBEq, Bool.false_eq_true, if_false, if_true, true_and, and_true, true_or, or_true, not_false_eq_true, Nat.reduceAdd, Nat.reduceSub, Nat.reduceLeDiff, Nat.reduceEqDiff, Nat.reduceLT, ↓reduceIte, List.length_cons, List.length_nil, List.set_cons_zero, List.set_cons_succ, Nat.le_refl, Nat.zero_le, Nat.zero_sub, Nat.sub_zero, List.nil_append, List.cons_append, Option.toList_some, Option.toList_none, eq_self, ↓rO1 h4.1, nI_pred]
          exact hq M4 h4
/-- a pair told by router t on port p about network n, taken by router r -/
def rHis (s : rS) (r t p n : Nat) : Bool := decide (¬ s.2 7 (8 * r + n) < 0) && decide (s.2 8 (8 * r + n) = nI t) && decide (s.2 9 (8 * r + n) = nI p)
def rTake (s : rS) (r t p n : Nat) : rS :=
  if s.2 14 (8 * t + n) = 2 then (s.1, up2 s.2 10 (8 * r + n) (if rHis s r t p n then 2 else s.2 10 (8 * r + n)))
  else if s.2 12 (8 * t + n) = 15 then (s.1, up2 s.2 7 (8 * r + n) (if rHis s r t p n then -1 else s.2 7 (8 * r + n)))
  else if s.2 7 (8 * r + n) < 0 ∨ s.2 10 (8 * r + n) = 2 ∨ s.2 12 (8 * t + n) < s.2 7 (8 * r + n) ∨ rHis s r t p n = true then
    (s.1, up2 (up2 (up2 (up2 (up2 s.2 11 (8 * r + n) (if ¬ s.2 7 (8 * r + n) < 0 ∧ ¬ s.2 11 (8 * r + n) = 0 then 1 else 0)) 7 (8 * r + n) (s.2 12 (8 * t + n) + 1)) 8 (8 * r + n) (nI t)) 9 (8 * r + n) (nI p)) 10 (8 * r + n) 0)
  else s
set_option maxRecDepth 100000 in
set_option maxHeartbeats 4000000 in
theorem rc121 {E : xE} {M0 M : xM} {m nx r t p n : Nat} {s : rS} {Q : Option Value → xM → Nat → Prop} (hb : xb E ≤ m) (h : rR M0 M m s) (hr : r < 6) (ht : t < 6) (hn : n < 8)
    (hq : ∀ M', rR M0 M' m (rTake s r t p n) → Q none M' nx) : XC E 121 [.ref m, .int (nI r), .int (nI t), .int (nI p), .int (nI n)] M nx Q := by
  have ik := nIx (show 8 * r + n < 48 by omega)
  have it := nIx (show 8 * t + n < 48 by omega)
  have fin : XZ E 121 (xZ E 121 Q) 57 [some (.ref m), some (.int (nI r)), some (.int (nI t)), some (.int (nI p)), some (.int (nI n)), some (.int (nI (8 * r + n))), some (.int (nI (8 * t + n))), some (.int (if rHis s r t p n then 1 else 0))] [] M nx 0 0 := by
    unfold rTake at hq
    by_cases c1 : s.2 14 (8 * t + n) = 2
    · rw [if_pos c1] at hq
      refine XZ.runH 80 [91, 129, 207, 223, 231, 239, 247] ?_
      by_cases o : rHis s r t p n = true
      · rw [if_pos o] at hq
        simp only [n121, t121, ↓xh, ↓xst, ↓xrunE, ↓rG, rL, rSt, updA, List.elem_nil, List.elem_cons, Nat.reduceBEq, Bool.false_eq_true, if_false, if_true, true_and, and_true, true_or, or_true, not_false_eq_true, Nat.reduceAdd, Nat.reduceSub, Nat.reduceLeDiff, Nat.reduceEqDiff, Nat.reduceLT, ↓reduceIte, List.length_cons, List.length_nil, List.set_cons_zero, List.set_cons_succ, Nat.le_refl, Nat.zero_le, Nat.zero_sub, Nat.sub_zero, List.nil_append, List.cons_append, Option.toList_some, Option.toList_none, eq_self, ↓rO1 h.1, ↓rB h.1, ik, it, c1, o, show ¬ (1 : Int32) = 0 by decide, xn0, xbj hb]
        refine XZ.abs (h.arr 10 _ _ (by decide) (by decide)) (fun M1 h1 => ?_)
        refine XZ.runH 60 [] ?_
        simp only [n121, t121, ↓xh, ↓xst, ↓xrunE, ↓rG, rL, rSt, updA, List.elem_nil, List.elem_cons, Nat.reduceBEq, Bool.false_eq_true, if_false, if_true, true_and, and_true, true_or, or_true, not_false_eq_true, Nat.reduceAdd, Nat.reduceSub, Nat.reduceLeDiff, Nat.reduceEqDiff, Nat.reduceLT, ↓reduceIte, List.length_cons, List.length_nil, List.set_cons_zero, List.set_cons_succ, Nat.le_refl, Nat.zero_le, Nat.zero_sub, Nat.sub_zero, List.nil_append, List.cons_append, Option.toList_some, Option.toList_none, eq_self]
        exact hq M1 h1
      · rw [if_neg o] at hq
        simp only [n121, t121, ↓xh, ↓xst, ↓xrunE, ↓rG, rL, rSt, updA, List.elem_nil, List.elem_cons, Nat.reduceBEq, Bool.false_eq_true, if_false, if_true, true_and, and_true, true_or, or_true, not_false_eq_true, Nat.reduceAdd, Nat.reduceSub, Nat.reduceLeDiff, Nat.reduceEqDiff, Nat.reduceLT, ↓reduceIte, List.length_cons, List.length_nil, List.set_cons_zero, List.set_cons_succ, Nat.le_refl, Nat.zero_le, Nat.zero_sub, Nat.sub_zero, List.nil_append, List.cons_append, Option.toList_some, Option.toList_none, eq_self, ↓rO1 h.1, ↓rB h.1, ik, it, c1, o, xn0, xbj hb]
        refine XZ.abs (h.arr 10 _ _ (by decide) (by decide)) (fun M1 h1 => ?_)
        refine XZ.runH 60 [] ?_
        simp only [n121, t121, ↓xh, ↓xst, ↓xrunE, ↓rG, rL, rSt, updA, List.elem_nil, List.elem_cons, Nat.reduceBEq, Bool.false_eq_true, if_false, if_true, true_and, and_true, true_or, or_true, not_false_eq_true, Nat.reduceAdd, Nat.reduceSub, Nat.reduceLeDiff, Nat.reduceEqDiff, Nat.reduceLT, ↓reduceIte, List.length_cons, List.length_nil, List.set_cons_zero, List.set_cons_succ, Nat.le_refl, Nat.zero_le, Nat.zero_sub, Nat.sub_zero, List.nil_append, List.cons_append, Option.toList_some, Option.toList_none, eq_self]
        exact hq M1 h1
    · rw [if_neg c1] at hq
      by_cases c2 : s.2 12 (8 * t + n) = 15
      · rw [if_pos c2] at hq
        refine XZ.runH 80 [91, 129, 207, 223, 231, 239, 247] ?_
        by_cases o : rHis s r t p n = true
        · rw [if_pos o] at hq
          simp only [n121, t121, ↓xh, ↓xst, ↓xrunE, ↓rG, rL, rSt, updA, List.elem_nil, List.elem_cons, Nat.reduceBEq, Bool.false_eq_true, if_false, if_true, true_and, and_true, true_or, or_true, not_false_eq_true, Nat.reduceAdd, Nat.reduceSub, Nat.reduceLeDiff, Nat.reduceEqDiff, Nat.reduceLT, ↓reduceIte, List.length_cons, List.length_nil, List.set_cons_zero, List.set_cons_succ, Nat.le_refl, Nat.zero_le, Nat.zero_sub, Nat.sub_zero, List.nil_append, List.cons_append, Option.toList_some, Option.toList_none, eq_self, ↓rO1 h.1, ↓rB h.1, ik, it, c1, c2, o, show ¬ (1 : Int32) = 0 by decide, xn0, xbj hb]
          refine XZ.abs (h.arr 7 _ _ (by decide) (by decide)) (fun M1 h1 => ?_)
          refine XZ.runH 60 [] ?_
          simp only [n121, t121, ↓xh, ↓xst, ↓xrunE, ↓rG, rL, rSt, updA, List.elem_nil, List.elem_cons, Nat.reduceBEq, Bool.false_eq_true, if_false, if_true, true_and, and_true, true_or, or_true, not_false_eq_true, Nat.reduceAdd, Nat.reduceSub, Nat.reduceLeDiff, Nat.reduceEqDiff, Nat.reduceLT, ↓reduceIte, List.length_cons, List.length_nil, List.set_cons_zero, List.set_cons_succ, Nat.le_refl, Nat.zero_le, Nat.zero_sub, Nat.sub_zero, List.nil_append, List.cons_append, Option.toList_some, Option.toList_none, eq_self]
          exact hq M1 h1
        · rw [if_neg o] at hq
          simp only [n121, t121, ↓xh, ↓xst, ↓xrunE, ↓rG, rL, rSt, updA, List.elem_nil, List.elem_cons, Nat.reduceBEq, Bool.false_eq_true, if_false, if_true, true_and, and_true, true_or, or_true, not_false_eq_true, Nat.reduceAdd, Nat.reduceSub, Nat.reduceLeDiff, Nat.reduceEqDiff, Nat.reduceLT, ↓reduceIte, List.length_cons, List.length_nil, List.set_cons_zero, List.set_cons_succ, Nat.le_refl, Nat.zero_le, Nat.zero_sub, Nat.sub_zero, List.nil_append, List.cons_append, Option.toList_some, Option.toList_none, eq_self, ↓rO1 h.1, ↓rB h.1, ik, it, c1, c2, o, xn0, xbj hb]
          refine XZ.abs (h.arr 7 _ _ (by decide) (by decide)) (fun M1 h1 => ?_)
          refine XZ.runH 60 [] ?_
          simp only [n121, t121, ↓xh, ↓xst, ↓xrunE, ↓rG, rL, rSt, updA, List.elem_nil, List.elem_cons, Nat.reduceBEq, Bool.false_eq_true, if_false, if_true, true_and, and_true, true_or, or_true, not_false_eq_true, Nat.reduceAdd, Nat.reduceSub, Nat.reduceLeDiff, Nat.reduceEqDiff, Nat.reduceLT, ↓reduceIte, List.length_cons, List.length_nil, List.set_cons_zero, List.set_cons_succ, Nat.le_refl, Nat.zero_le, Nat.zero_sub, Nat.sub_zero, List.nil_append, List.cons_append, Option.toList_some, Option.toList_none, eq_self]
          exact hq M1 h1
      · rw [if_neg c2] at hq
        have go : (s.2 7 (8 * r + n) < 0 ∨ s.2 10 (8 * r + n) = 2 ∨ s.2 12 (8 * t + n) < s.2 7 (8 * r + n) ∨ rHis s r t p n = true) → XZ E 121 (xZ E 121 Q) 175 [some (.ref m), some (.int (nI r)), some (.int (nI t)), some (.int (nI p)), some (.int (nI n)), some (.int (nI (8 * r + n))), some (.int (nI (8 * t + n))), some (.int (if rHis s r t p n then 1 else 0))] [] M nx 0 0 := by
          intro z
          rw [if_pos z] at hq
          have rest : ∀ M1 x, x = (if ¬ s.2 7 (8 * r + n) < 0 ∧ ¬ s.2 11 (8 * r + n) = 0 then 1 else 0 : Int32) → rR M0 M1 m (s.1, up2 s.2 11 (8 * r + n) x) → XZ E 121 (xZ E 121 Q) 207 [some (.ref m), some (.int (nI r)), some (.int (nI t)), some (.int (nI p)), some (.int (nI n)), some (.int (nI (8 * r + n))), some (.int (nI (8 * t + n))), some (.int (if rHis s r t p n then 1 else 0))] [] M1 nx 0 0 := by
            intro M1 x hx h1
            subst hx
            refine XZ.runH 60 [91, 129, 207, 223, 231, 239, 247] ?_
            simp only [n121, t121, ↓xh, ↓xst, ↓xrunE, ↓rG, rL, rSt, updA, List.elem_nil, List.elem_cons, Nat.reduceBEq, Bool.false_eq_true, if_false, if_true, true_and, and_true, true_or, or_true, not_false_eq_true, Nat.reduceAdd, Nat.reduceSub, Nat.reduceLeDiff, Nat.reduceEqDiff, Nat.reduceLT, ↓reduceIte, List.length_cons, List.length_nil, List.set_cons_zero, List.set_cons_succ, Nat.le_refl, Nat.zero_le, Nat.zero_sub, Nat.sub_zero, List.nil_append, List.cons_append, Option.toList_some, Option.toList_none, eq_self, ↓rO1 h1.1, ↓rB h1.1, ik, it, xn0, xbj hb, up2A]
            refine XZ.abs (h1.arr 7 _ _ (by decide) (by decide)) (fun M2 h2 => ?_)
            refine XZ.runH 60 [91, 129, 207, 223, 231, 239, 247] ?_
            simp only [n121, t121, ↓xh, ↓xst, ↓xrunE, ↓rG, rL, rSt, updA, List.elem_nil, List.elem_cons, Nat.reduceBEq, Bool.false_eq_true, if_false, if_true, true_and, and_true, true_or, or_true, not_false_eq_true, Nat.reduceAdd, Nat.reduceSub, Nat.reduceLeDiff, Nat.reduceEqDiff, Nat.reduceLT, ↓reduceIte, List.length_cons, List.length_nil, List.set_cons_zero, List.set_cons_succ, Nat.le_refl, Nat.zero_le, Nat.zero_sub, Nat.sub_zero, List.nil_append, List.cons_append, Option.toList_some, Option.toList_none, eq_self, ↓rO1 h2.1, ↓rB h2.1, ik, xn0, xbj hb]
            refine XZ.abs (h2.arr 8 _ _ (by decide) (by decide)) (fun M3 h3 => ?_)
            refine XZ.runH 60 [91, 129, 207, 223, 231, 239, 247] ?_
            simp only [n121, t121, ↓xh, ↓xst, ↓xrunE, ↓rG, rL, rSt, updA, List.elem_nil, List.elem_cons, Nat.reduceBEq, Bool.false_eq_true, if_false, if_true, true_and, and_true, true_or, or_true, not_false_eq_true, Nat.reduceAdd, Nat.reduceSub, Nat.reduceLeDiff, Nat.reduceEqDiff, Nat.reduceLT, ↓reduceIte, List.length_cons, List.length_nil, List.set_cons_zero, List.set_cons_succ, Nat.le_refl, Nat.zero_le, Nat.zero_sub, Nat.sub_zero, List.nil_append, List.cons_append, Option.toList_some, Option.toList_none, eq_self, ↓rO1 h3.1, ↓rB h3.1, ik, xn0, xbj hb]
            refine XZ.abs (h3.arr 9 _ _ (by decide) (by decide)) (fun M4 h4 => ?_)
            refine XZ.runH 60 [91, 129, 207, 223, 231, 239, 247] ?_
            simp only [n121, t121, ↓xh, ↓xst, ↓xrunE, ↓rG, rL, rSt, updA, List.elem_nil, List.elem_cons, Nat.reduceBEq, Bool.false_eq_true, if_false, if_true, true_and, and_true, true_or, or_true, not_false_eq_true, Nat.reduceAdd, Nat.reduceSub, Nat.reduceLeDiff, Nat.reduceEqDiff, Nat.reduceLT, ↓reduceIte, List.length_cons, List.length_nil, List.set_cons_zero, List.set_cons_succ, Nat.le_refl, Nat.zero_le, Nat.zero_sub, Nat.sub_zero, List.nil_append, List.cons_append, Option.toList_some, Option.toList_none, eq_self, ↓rO1 h4.1, ↓rB h4.1, ik, xn0, xbj hb]
            refine XZ.abs (h4.arr 10 _ _ (by decide) (by decide)) (fun M5 h5 => ?_)
            refine XZ.runH 60 [] ?_
            simp only [n121, t121, ↓xh, ↓xst, ↓xrunE, ↓rG, rL, rSt, updA, List.elem_nil, List.elem_cons, Nat.reduceBEq, Bool.false_eq_true, if_false, if_true, true_and, and_true, true_or, or_true, not_false_eq_true, Nat.reduceAdd, Nat.reduceSub, Nat.reduceLeDiff, Nat.reduceEqDiff, Nat.reduceLT, ↓reduceIte, List.length_cons, List.length_nil, List.set_cons_zero, List.set_cons_succ, Nat.le_refl, Nat.zero_le, Nat.zero_sub, Nat.sub_zero, List.nil_append, List.cons_append, Option.toList_some, Option.toList_none, eq_self]
            exact hq M5 h5
          refine XZ.runH 60 [91, 129, 207, 223, 231, 239, 247] ?_
          by_cases a1 : s.2 7 (8 * r + n) < 0
          · simp only [n121, t121, ↓xh, ↓xst, ↓xrunE, ↓rG, rL, rSt, updA, List.elem_nil, List.elem_cons, Nat.reduceBEq, Bool.false_eq_true, if_false, if_true, true_and, and_true, true_or, or_true, not_false_eq_true, Nat.reduceAdd, Nat.reduceSub, Nat.reduceLeDiff, Nat.reduceEqDiff, Nat.reduceLT, ↓reduceIte, List.length_cons, List.length_nil, List.set_cons_zero, List.set_cons_succ, Nat.le_refl, Nat.zero_le, Nat.zero_sub, Nat.sub_zero, List.nil_append, List.cons_append, Option.toList_some, Option.toList_none, eq_self, ↓rO1 h.1, ↓rB h.1, ik, it, lT a1, xn2a, xbj hb]
            exact rest _ _ (by simp [a1]) (h.arr 11 _ _ (by decide) (by decide))
          · by_cases a2 : s.2 11 (8 * r + n) = 0
            · simp only [n121, t121, ↓xh, ↓xst, ↓xrunE, ↓rG, rL, rSt, updA, List.elem_nil, List.elem_cons, Nat.reduceBEq, Bool.false_eq_true, if_false, if_true, true_and, and_true, true_or, or_true, not_false_eq_true, Nat.reduceAdd, Nat.reduceSub, Nat.reduceLeDiff, Nat.reduceEqDiff, Nat.reduceLT, ↓reduceIte, List.length_cons, List.length_nil, List.set_cons_zero, List.set_cons_succ, Nat.le_refl, Nat.zero_le, Nat.zero_sub, Nat.sub_zero, List.nil_append, List.cons_append, Option.toList_some, Option.toList_none, eq_self, ↓rO1 h.1, ↓rB h.1, ik, it, lF a1, a2, xn2a, xbj hb]
              exact rest _ _ (by simp [a2]) (h.arr 11 _ _ (by decide) (by decide))
            · simp only [n121, t121, ↓xh, ↓xst, ↓xrunE, ↓rG, rL, rSt, updA, List.elem_nil, List.elem_cons, Nat.reduceBEq, Bool.false_eq_true, if_false, if_true, true_and, and_true, true_or, or_true, not_false_eq_true, Nat.reduceAdd, Nat.reduceSub, Nat.reduceLeDiff, Nat.reduceEqDiff, Nat.reduceLT, ↓reduceIte, List.length_cons, List.length_nil, List.set_cons_zero, List.set_cons_succ, Nat.le_refl, Nat.zero_le, Nat.zero_sub, Nat.sub_zero, List.nil_append, List.cons_append, Option.toList_some, Option.toList_none, eq_self, ↓rO1 h.1, ↓rB h.1, ik, it, lF a1, a2, xn2b, xbj hb]
              exact rest _ _ (by simp [a1, a2]) (h.arr 11 _ _ (by decide) (by decide))
        refine XZ.runH 80 [175] ?_
        by_cases a1 : s.2 7 (8 * r + n) < 0
        · simp only [n121, t121, ↓xh, ↓xst, ↓xrunE, ↓rG, rL, rSt, updA, List.elem_nil, List.elem_cons, Nat.reduceBEq, Bool.false_eq_true, if_false, if_true, true_and, and_true, true_or, or_true, not_false_eq_true, Nat.reduceAdd, Nat.reduceSub, Nat.reduceLeDiff, Nat.reduceEqDiff, Nat.reduceLT, ↓reduceIte, List.length_cons, List.length_nil, List.set_cons_zero, List.set_cons_succ, Nat.le_refl, Nat.zero_le, Nat.zero_sub, Nat.sub_zero, List.nil_append, List.cons_append, Option.toList_some, Option.toList_none, eq_self, ↓rO1 h.1, ↓rB h.1, ik, it, c1, c2, lT a1]
          exact go (Or.inl a1)
        · by_cases a2 : s.2 10 (8 * r + n) = 2
          · simp only [n121, t121, ↓xh, ↓xst, ↓xrunE, ↓rG, rL, rSt, updA, List.elem_nil, List.elem_cons, Nat.reduceBEq, Bool.false_eq_true, if_false, if_true, true_and, and_true, true_or, or_true, not_false_eq_true, Nat.reduceAdd, Nat.reduceSub, Nat.reduceLeDiff, Nat.reduceEqDiff, Nat.reduceLT, ↓reduceIte, List.length_cons, List.length_nil, List.set_cons_zero, List.set_cons_succ, Nat.le_refl, Nat.zero_le, Nat.zero_sub, Nat.sub_zero, List.nil_append, List.cons_append, Option.toList_some, Option.toList_none, eq_self, ↓rO1 h.1, ↓rB h.1, ik, it, c1, c2, lF a1, a2]
            exact go (Or.inr (Or.inl a2))
          · by_cases a3 : s.2 12 (8 * t + n) < s.2 7 (8 * r + n)
            · simp only [n121, t121, ↓xh, ↓xst, ↓xrunE, ↓rG, rL, rSt, updA, List.elem_nil, List.elem_cons, Nat.reduceBEq, Bool.false_eq_true, if_false, if_true, true_and, and_true, true_or, or_true, not_false_eq_true, Nat.reduceAdd, Nat.reduceSub, Nat.reduceLeDiff, Nat.reduceEqDiff, Nat.reduceLT, ↓reduceIte, List.length_cons, List.length_nil, List.set_cons_zero, List.set_cons_succ, Nat.le_refl, Nat.zero_le, Nat.zero_sub, Nat.sub_zero, List.nil_append, List.cons_append, Option.toList_some, Option.toList_none, eq_self, ↓rO1 h.1, ↓rB h.1, ik, it, c1, c2, lF a1, a2, lT a3]
              exact go (Or.inr (Or.inr (Or.inl a3)))
            · by_cases o : rHis s r t p n = true
              · have g9 := go (Or.inr (Or.inr (Or.inr o)))
                rw [if_pos o] at g9
                simp only [n121, t121, ↓xh, ↓xst, ↓xrunE, ↓rG, rL, rSt, updA, List.elem_nil, List.elem_cons, Nat.reduceBEq, Bool.false_eq_true, if_false, if_true, true_and, and_true, true_or, or_true, not_false_eq_true, Nat.reduceAdd, Nat.reduceSub, Nat.reduceLeDiff, Nat.reduceEqDiff, Nat.reduceLT, ↓reduceIte, List.length_cons, List.length_nil, List.set_cons_zero, List.set_cons_succ, Nat.le_refl, Nat.zero_le, Nat.zero_sub, Nat.sub_zero, List.nil_append, List.cons_append, Option.toList_some, Option.toList_none, eq_self, ↓rO1 h.1, ↓rB h.1, ik, it, c1, c2, lF a1, a2, lF a3, o, show ¬ (1 : Int32) = 0 by decide]
                exact g9
              · simp only [n121, t121, ↓xh, ↓xst, ↓xrunE, ↓rG, rL, rSt, updA, List.elem_nil, List.elem_cons, Nat.reduceBEq, Bool.false_eq_true, if_false, if_true, true_and, and_true, true_or, or_true, not_false_eq_true, Nat.reduceAdd, Nat.reduceSub, Nat.reduceLeDiff, Nat.reduceEqDiff, Nat.reduceLT, ↓reduceIte, List.length_cons, List.length_nil, List.set_cons_zero, List.set_cons_succ, Nat.le_refl, Nat.zero_le, Nat.zero_sub, Nat.sub_zero, List.nil_append, List.cons_append, Option.toList_some, Option.toList_none, eq_self, ↓rO1 h.1, ↓rB h.1, ik, it, c1, c2, lF a1, a2, lF a3, o]
                rw [if_neg (by simp [a1, a2, a3, o])] at hq
                exact hq M h
  refine XC.run 80 [57] ?_
  by_cases a1 : s.2 7 (8 * r + n) < 0
  · simp only [n121, t121, ↓xh, ↓xst, ↓xrunE, ↓rG, rL, rSt, updA, List.elem_nil, List.elem_cons, Nat.reduceBEq, Bool.false_eq_true, if_false, if_true, true_and, and_true, true_or, or_true, not_false_eq_true, Nat.reduceAdd, Nat.reduceSub, Nat.reduceLeDiff, Nat.reduceEqDiff, Nat.reduceLT, ↓reduceIte, List.length_cons, List.length_nil, List.set_cons_zero, List.set_cons_succ, Nat.le_refl, Nat.zero_le, Nat.zero_sub, Nat.sub_zero, List.nil_append, List.cons_append, Option.toList_some, Option.toList_none, eq_self, ↓rO1 h.1, ↓rB h.1, nIm8, nI_add, ik, lT a1]
    simpa [rHis, a1] using fin
  · by_cases a2 : s.2 8 (8 * r + n) = nI t
    · by_cases a3 : s.2 9 (8 * r + n) = nI p
      · simp only [n121, t121, ↓xh, ↓xst, ↓xrunE, ↓rG, rL, rSt, updA, List.elem_nil, List.elem_cons, Nat.reduceBEq, Bool.false_eq_true, if_false, if_true, true_and, and_true, true_or, or_true, not_false_eq_true, Nat.reduceAdd, Nat.reduceSub, Nat.reduceLeDiff, Nat.reduceEqDiff, Nat.reduceLT, ↓reduceIte, List.length_cons, List.length_nil, List.set_cons_zero, List.set_cons_succ, Nat.le_refl, Nat.zero_le, Nat.zero_sub, Nat.sub_zero, List.nil_append, List.cons_append, Option.toList_some, Option.toList_none, eq_self, ↓rO1 h.1, ↓rB h.1, nIm8, nI_add, ik, lF a1, a2, a3]
        simpa [rHis, a1, a2, a3] using fin
      · simp only [n121, t121, ↓xh, ↓xst, ↓xrunE, ↓rG, rL, rSt, updA, List.elem_nil, List.elem_cons, Nat.reduceBEq, Bool.false_eq_true, if_false, if_true, true_and, and_true, true_or, or_true, not_false_eq_true, Nat.reduceAdd, Nat.reduceSub, Nat.reduceLeDiff, Nat.reduceEqDiff, Nat.reduceLT, ↓reduceIte, List.length_cons, List.length_nil, List.set_cons_zero, List.set_cons_succ, Nat.le_refl, Nat.zero_le, Nat.zero_sub, Nat.sub_zero, List.nil_append, List.cons_append, Option.toList_some, Option.toList_none, eq_self, ↓rO1 h.1, ↓rB h.1, nIm8, nI_add, ik, lF a1, a2, a3]
        simpa [rHis, a3] using fin
    · simp only [n121, t121, ↓xh, ↓xst, ↓xrunE, ↓rG, rL, rSt, updA, List.elem_nil, List.elem_cons, Nat.reduceBEq, Bool.false_eq_true, if_false, if_true, true_and, and_true, true_or, or_true, not_false_eq_true, Nat.reduceAdd, Nat.reduceSub, Nat.reduceLeDiff, Nat.reduceEqDiff, Nat.reduceLT, ↓reduceIte, List.length_cons, List.length_nil, List.set_cons_zero, List.set_cons_succ, Nat.le_refl, Nat.zero_le, Nat.zero_sub, Nat.sub_zero, List.nil_append, List.cons_append, Option.toList_some, Option.toList_none, eq_self, ↓rO1 h.1, ↓rB h.1, nIm8, nI_add, ik, lF a1, a2]
      simpa [rHis, a2] using fin
