/-- the answer's parts: l are left, from p on -/
def rLk (R c a b : Nat) : Nat → Nat → rS → rS
  | 0, _, s => s
  | l + 1, p, s => rLk R c a b l (p + 1) (if rBit (s.2 34 c) p then (if rGot s R b a then ((rPk s).1, up2 s.2 34 c (s.2 34 c &&& ((1 <<< (nI p &&& 31)) ^^^ -1))) else rPk s) else s)
theorem rPk_9 (s : rS) : (rPk s).1 9 = s.1 9 := by simp [rPk, upd]
theorem rPk_2 (s : rS) : (rPk s).2 = s.2 := rfl
set_option maxRecDepth 100000 in
set_option maxHeartbeats 4000000 in
theorem rl112 {E : xE} {M0 : xM} {m nx R c i a b e : Nat} {Q : Option Value → xM → Nat → Prop} (hb : xb E ≤ m) (hR : R ≤ 6) (ha : a < 8) (hb8 : b < 8) (hc : c < 12) (s' : rS)
    (kk : ∀ M', rR M0 M' m s' → XZ E 112 (xZ E 112 Q) 188 [some (.ref m), some (.int (nI c)), some (.int (nI i)), some (.int (nI a)), some (.int (nI b)), some (.int (nI e)), some (.int (nI 8))] [] M' nx 0 0) :
    ∀ l p s M, p + l = 8 → s.1 9 = nI R → (∀ k, k < 48 → rRt (s.2 8 k)) → rLk R c a b l p s = s' → rR M0 M m s →
    XZ E 112 (xZ E 112 Q) 131 [some (.ref m), some (.int (nI c)), some (.int (nI i)), some (.int (nI a)), some (.int (nI b)), some (.int (nI e)), some (.int (nI p))] [] M nx 0 0 := by
  have ic := nIx hc
  intro l
  induction l with
  | zero =>
    intro p s M hp h9 hnx hs h
    obtain rfl : p = 8 := by omega
    refine XZ.runH 60 [131, 188] ?_
    simp only [n112, t112, ↓xh, ↓xst, ↓xrunE, ↓rG, rL, rSt, updA, List.elem_nil, List.elem_cons, Nat.reduceBEq, Bool.false_eq_true, if_false, if_true, true_and, and_true, true_or, or_true, not_false_eq_true, Nat.reduceAdd, Nat.reduceSub, Nat.reduceLeDiff, Nat.reduceEqDiff, Nat.reduceLT, ↓reduceIte, List.length_cons, List.length_nil, List.set_cons_zero, List.set_cons_succ, Nat.le_refl, Nat.zero_le, Nat.zero_sub, Nat.sub_zero, List.nil_append, List.cons_append, Option.toList_some, Option.toList_none, eq_self, show (8 : Int32) ≤ nI 8 by decide]
    exact kk M (h.to hs)
  | succ l ih =>
    intro p s M hp h9 hnx hs h
    have g : ¬ (8 : Int32) ≤ nI p := nI_ge (show p < 8 by omega) (by decide)
    rw [rLk] at hs
    refine XZ.runH 60 [131, 182] ?_
    by_cases c1 : (s.2 34 c >>> (nI p &&& 31)) &&& 1 = 1
    · rw [if_pos (show rBit (s.2 34 c) p = true by simp [rBit, c1])] at hs
      simp only [n112, n122, t112, ↓xh, ↓xst, ↓xrunE, ↓rG, rL, rSt, updA, List.elem_nil, List.elem_cons, Nat.reduceBEq, Bool.false_eq_true, if_false, if_true, true_and, and_true, true_or, or_true, not_false_eq_true, Nat.reduceAdd, Nat.reduceSub, Nat.reduceLeDiff, Nat.reduceEqDiff, Nat.reduceLT, ↓reduceIte, List.length_cons, List.length_nil, List.set_cons_zero, List.set_cons_succ, Nat.le_refl, Nat.zero_le, Nat.zero_sub, Nat.sub_zero, List.nil_append, List.cons_append, Option.toList_some, Option.toList_none, eq_self, g, ↓rO1 h.1, ↓rB h.1, ic, c1]
      refine rc122 (a := b) (b := a) hb h hR h9 hb8 ha hnx (fun M1 h1 => ?_)
      by_cases c2 : rGot s R b a = true
      · rw [if_pos c2] at hs
        refine XZ.runH 60 [38, 48, 128, 131, 182, 205, 223] ?_
        simp only [n112, t112, ↓xh, ↓xst, ↓xrunE, ↓rG, rL, rSt, updA, List.elem_nil, List.elem_cons, Nat.reduceBEq, Bool.false_eq_true, if_false, if_true, true_and, and_true, true_or, or_true, not_false_eq_true, Nat.reduceAdd, Nat.reduceSub, Nat.reduceLeDiff, Nat.reduceEqDiff, Nat.reduceLT, ↓reduceIte, List.length_cons, List.length_nil, List.set_cons_zero, List.set_cons_succ, Nat.le_refl, Nat.zero_le, Nat.zero_sub, Nat.sub_zero, List.nil_append, List.cons_append, Option.toList_some, Option.toList_none, eq_self, c2, show ¬ (1 : Int32) = 0 by decide, ↓rO1 h1.1, ↓rB h1.1, ic, rPk_2, xn0, xbj hb]
        refine XZ.abs (h1.arr 34 _ _ (by decide) (by decide)) (fun M2 h2 => ?_)
        refine XZ.runH 60 [131] ?_
        simp only [n112, t112, ↓xh, ↓xst, ↓xrunE, ↓rG, rL, rSt, updA, List.elem_nil, List.elem_cons, Nat.reduceBEq, Bool.false_eq_true, if_false, if_true, true_and, and_true, true_or, or_true, not_false_eq_true, Nat.reduceAdd, Nat.reduceSub, Nat.reduceLeDiff, Nat.reduceEqDiff, Nat.reduceLT, ↓reduceIte, List.length_cons, List.length_nil, List.set_cons_zero, List.set_cons_succ, Nat.le_refl, Nat.zero_le, Nat.zero_sub, Nat.sub_zero, List.nil_append, List.cons_append, Option.toList_some, Option.toList_none, eq_self, nI_1]
        refine ih (p + 1) _ M2 (by omega) ?_ ?_ hs h2
        · dsimp only; rw [rPk_9]; exact h9
        · intro k hk; dsimp only; rw [up2_n (by decide)]; exact hnx k hk
      · rw [if_neg c2] at hs
        refine XZ.runH 60 [131] ?_
        simp only [n112, t112, ↓xh, ↓xst, ↓xrunE, ↓rG, rL, rSt, updA, List.elem_nil, List.elem_cons, Nat.reduceBEq, Bool.false_eq_true, if_false, if_true, true_and, and_true, true_or, or_true, not_false_eq_true, Nat.reduceAdd, Nat.reduceSub, Nat.reduceLeDiff, Nat.reduceEqDiff, Nat.reduceLT, ↓reduceIte, List.length_cons, List.length_nil, List.set_cons_zero, List.set_cons_succ, Nat.le_refl, Nat.zero_le, Nat.zero_sub, Nat.sub_zero, List.nil_append, List.cons_append, Option.toList_some, Option.toList_none, eq_self, c2, nI_1]
        exact ih (p + 1) _ M1 (by omega) (by rw [rPk_9]; exact h9) hnx hs h1
    · rw [if_neg (show ¬ rBit (s.2 34 c) p = true by simp [rBit, c1])] at hs
      simp only [n112, t112, ↓xh, ↓xst, ↓xrunE, ↓rG, rL, rSt, updA, List.elem_nil, List.elem_cons, Nat.reduceBEq, Bool.false_eq_true, if_false, if_true, true_and, and_true, true_or, or_true, not_false_eq_true, Nat.reduceAdd, Nat.reduceSub, Nat.reduceLeDiff, Nat.reduceEqDiff, Nat.reduceLT, ↓reduceIte, List.length_cons, List.length_nil, List.set_cons_zero, List.set_cons_succ, Nat.le_refl, Nat.zero_le, Nat.zero_sub, Nat.sub_zero, List.nil_append, List.cons_append, Option.toList_some, Option.toList_none, eq_self, g, ↓rO1 h.1, ↓rB h.1, ic, c1]
      refine XZ.runH 60 [131] ?_
      simp only [n112, t112, ↓xh, ↓xst, ↓xrunE, ↓rG, rL, rSt, updA, List.elem_nil, List.elem_cons, Nat.reduceBEq, Bool.false_eq_true, if_false, if_true, true_and, and_true, true_or, or_true, not_false_eq_true, Nat.reduceAdd, Nat.reduceSub, Nat.reduceLeDiff, Nat.reduceEqDiff, Nat.reduceLT, ↓reduceIte, List.length_cons, List.length_nil, List.set_cons_zero, List.set_cons_succ, Nat.le_refl, Nat.zero_le, Nat.zero_sub, Nat.sub_zero, List.nil_append, List.cons_append, Option.toList_some, Option.toList_none, eq_self, nI_1]
      exact ih (p + 1) _ M (by omega) h9 hnx hs h
theorem rLk_9 (R c a b : Nat) : ∀ l p s, (rLk R c a b l p s).1 9 = s.1 9
  | 0, _, _ => rfl
  | l + 1, p, s => by
    rw [rLk, rLk_9 R c a b l]
    split
    · split
      · exact rPk_9 s
      · exact rPk_9 s
    · rfl
theorem rLk_2 (R c a b : Nat) {j : Nat} (hj : j ≠ 34) : ∀ l p s, (rLk R c a b l p s).2 j = s.2 j
  | 0, _, _ => rfl
  | l + 1, p, s => by
    rw [rLk, rLk_2 R c a b hj l]
    split
    · split
      · exact up2_n hj
      · rfl
    · rfl
/-- a command whose entry is e, of a list of L + 1 -/
def rAt2 (s : rS) (R c i a b e L : Nat) : rS :=
  let s3 := rLk R c a b 8 0 (s.1, up2 s.2 24 (8 * i + e) (s.1 21))
  if ¬ s3.2 34 c = 0 then s3 else
  let s4 : rS := (s3.1, up2 (up2 s3.2 31 c 2) 37 c (s3.2 23 (8 * i + e)))
  if rGot s4 R a b then rStk (rPk s4) i e L else rPk s4
set_option maxRecDepth 100000 in
set_option maxHeartbeats 4000000 in
theorem rm112 {E : xE} {M0 M : xM} {m nx R c i a b e L : Nat} {s : rS} {v6 : Option Value} {Q : Option Value → xM → Nat → Prop} (hb : xb E ≤ m) (h : rR M0 M m s) (hR : R ≤ 6) (h9 : s.1 9 = nI R) (hnx : ∀ k, k < 48 → rRt (s.2 8 k)) (ha : a < 8) (hb8 : b < 8) (hc : c < 12) (hi : i < 16) (he : e < 8) (hL : L < 8) (hl : s.2 20 i = nI (L + 1))
    (hq : ∀ M', rR M0 M' m (rAt2 s R c i a b e L) → Q none M' nx) :
    XZ E 112 (xZ E 112 Q) 112 [some (.ref m), some (.int (nI c)), some (.int (nI i)), some (.int (nI a)), some (.int (nI b)), some (.int (nI e)), v6] [] M nx 0 0 := by
  have ic := nIx hc
  have ie := nIx (show 8 * i + e < 128 by omega)
  refine XZ.runH 60 [38, 48, 128, 131, 182, 205, 223] ?_
  simp only [n112, t112, ↓xh, ↓xst, ↓xrunE, ↓rG, rL, rSt, updA, List.elem_nil, List.elem_cons, Nat.reduceBEq, Bool.false_eq_true, if_false, if_true, true_and, and_true, true_or, or_true, not_false_eq_true, Nat.reduceAdd, Nat.reduceSub, Nat.reduceLeDiff, Nat.reduceEqDiff, Nat.reduceLT, ↓reduceIte, List.length_cons, List.length_nil, List.set_cons_zero, List.set_cons_succ, Nat.le_refl, Nat.zero_le, Nat.zero_sub, Nat.sub_zero, List.nil_append, List.cons_append, Option.toList_some, Option.toList_none, eq_self, ↓rO1 h.1, ↓rB h.1, nIm8, nI_add, ie, xn0, xbj hb]
  refine XZ.abs (h.arr 24 _ _ (by decide) (by decide)) (fun M1 h1 => ?_)
  refine XZ.runH 60 [131] ?_
  simp only [n112, t112, ↓xh, ↓xst, ↓xrunE, ↓rG, rL, rSt, updA, List.elem_nil, List.elem_cons, Nat.reduceBEq, Bool.false_eq_true, if_false, if_true, true_and, and_true, true_or, or_true, not_false_eq_true, Nat.reduceAdd, Nat.reduceSub, Nat.reduceLeDiff, Nat.reduceEqDiff, Nat.reduceLT, ↓reduceIte, List.length_cons, List.length_nil, List.set_cons_zero, List.set_cons_succ, Nat.le_refl, Nat.zero_le, Nat.zero_sub, Nat.sub_zero, List.nil_append, List.cons_append, Option.toList_some, Option.toList_none, eq_self]
  rw [rAt2] at hq
  dsimp only at hq
  refine rl112 hb hR ha hb8 hc _ (fun M2 h2 => ?_) 8 0 _ M1 rfl h9 ?_ rfl h1
  · generalize hs3 : rLk R c a b 8 0 (s.1, up2 s.2 24 (8 * i + e) (s.1 21)) = s3 at h2 hq
    have e9 : s3.1 9 = nI R := by rw [← hs3, rLk_9]; exact h9
    have e8 : s3.2 8 = s.2 8 := by rw [← hs3, rLk_2 _ _ _ _ (by decide)]; exact up2_n (by decide)
    have e20 : s3.2 20 = s.2 20 := by rw [← hs3, rLk_2 _ _ _ _ (by decide)]; exact up2_n (by decide)
    refine XZ.runH 60 [38, 48, 128, 182, 205, 223] ?_
    by_cases c1 : s3.2 34 c = 0
    · rw [if_neg (by simp [c1])] at hq
      simp only [n112, t112, ↓xh, ↓xst, ↓xrunE, ↓rG, rL, rSt, updA, List.elem_nil, List.elem_cons, Nat.reduceBEq, Bool.false_eq_true, if_false, if_true, true_and, and_true, true_or, or_true, not_false_eq_true, Nat.reduceAdd, Nat.reduceSub, Nat.reduceLeDiff, Nat.reduceEqDiff, Nat.reduceLT, ↓reduceIte, List.length_cons, List.length_nil, List.set_cons_zero, List.set_cons_succ, Nat.le_refl, Nat.zero_le, Nat.zero_sub, Nat.sub_zero, List.nil_append, List.cons_append, Option.toList_some, Option.toList_none, eq_self, ↓rO1 h2.1, ↓rB h2.1, ic, c1, xn0, xbj hb]
      refine XZ.abs (h2.arr 31 _ _ (by decide) (by decide)) (fun M3 h3 => ?_)
      refine XZ.runH 60 [38, 48, 128, 182, 205, 223] ?_
      simp only [n112, t112, ↓xh, ↓xst, ↓xrunE, ↓rG, rL, rSt, updA, List.elem_nil, List.elem_cons, Nat.reduceBEq, Bool.false_eq_true, if_false, if_true, true_and, and_true, true_or, or_true, not_false_eq_true, Nat.reduceAdd, Nat.reduceSub, Nat.reduceLeDiff, Nat.reduceEqDiff, Nat.reduceLT, ↓reduceIte, List.length_cons, List.length_nil, List.set_cons_zero, List.set_cons_succ, Nat.le_refl, Nat.zero_le, Nat.zero_sub, Nat.sub_zero, List.nil_append, List.cons_append, Option.toList_some, Option.toList_none, eq_self, ↓rO1 h3.1, ↓rB h3.1, nIm8, nI_add, ic, ie, up2A, xn0, xbj hb]
      refine XZ.abs (h3.arr 37 _ _ (by decide) (by decide)) (fun M4 h4 => ?_)
      refine XZ.runH 60 [38, 48, 128, 182, 205, 223] ?_
      simp only [n112, n122, t112, ↓xh, ↓xst, ↓xrunE, ↓rG, rL, rSt, updA, List.elem_nil, List.elem_cons, Nat.reduceBEq, Bool.false_eq_true, if_false, if_true, true_and, and_true, true_or, or_true, not_false_eq_true, Nat.reduceAdd, Nat.reduceSub, Nat.reduceLeDiff, Nat.reduceEqDiff, Nat.reduceLT, ↓reduceIte, List.length_cons, List.length_nil, List.set_cons_zero, List.set_cons_succ, Nat.le_refl, Nat.zero_le, Nat.zero_sub, Nat.sub_zero, List.nil_append, List.cons_append, Option.toList_some, Option.toList_none, eq_self, ↓rO1 h4.1]
      refine rc122 (a := a) (b := b) hb h4 hR e9 ha hb8 ?_ (fun M5 h5 => ?_)
      · intro k hk; dsimp only; rw [up2_n (by decide), up2_n (by decide), e8]; exact hnx k hk
      · dsimp only at h5 ⊢
        by_cases c2 : rGot (s3.1, up2 (up2 s3.2 31 c 2) 37 c (s3.2 23 (8 * i + e))) R a b = true
        · rw [if_pos c2] at hq
          refine XZ.runH 60 [] ?_
          simp only [n112, n110, t112, ↓xh, ↓xst, ↓xrunE, ↓rG, rL, rSt, updA, List.elem_nil, List.elem_cons, Nat.reduceBEq, Bool.false_eq_true, if_false, if_true, true_and, and_true, true_or, or_true, not_false_eq_true, Nat.reduceAdd, Nat.reduceSub, Nat.reduceLeDiff, Nat.reduceEqDiff, Nat.reduceLT, ↓reduceIte, List.length_cons, List.length_nil, List.set_cons_zero, List.set_cons_succ, Nat.le_refl, Nat.zero_le, Nat.zero_sub, Nat.sub_zero, List.nil_append, List.cons_append, Option.toList_some, Option.toList_none, eq_self, c2, show ¬ (1 : Int32) = 0 by decide, ↓rO1 h5.1]
          refine rc110 hb h5 hi hL he ?_ (fun M6 h6 => ?_)
          · rw [rPk_2]; dsimp only; rw [up2_n (by decide), up2_n (by decide), e20]; exact hl
          · refine XZ.runH 60 [] ?_
            simp only [n112, t112, ↓xh, ↓xst, ↓xrunE, ↓rG, rL, rSt, updA, List.elem_nil, List.elem_cons, Nat.reduceBEq, Bool.false_eq_true, if_false, if_true, true_and, and_true, true_or, or_true, not_false_eq_true, Nat.reduceAdd, Nat.reduceSub, Nat.reduceLeDiff, Nat.reduceEqDiff, Nat.reduceLT, ↓reduceIte, List.length_cons, List.length_nil, List.set_cons_zero, List.set_cons_succ, Nat.le_refl, Nat.zero_le, Nat.zero_sub, Nat.sub_zero, List.nil_append, List.cons_append, Option.toList_some, Option.toList_none, eq_self]
            exact hq M6 h6
        · rw [if_neg c2] at hq
          refine XZ.runH 60 [] ?_
          simp only [n112, t112, ↓xh, ↓xst, ↓xrunE, ↓rG, rL, rSt, updA, List.elem_nil, List.elem_cons, Nat.reduceBEq, Bool.false_eq_true, if_false, if_true, true_and, and_true, true_or, or_true, not_false_eq_true, Nat.reduceAdd, Nat.reduceSub, Nat.reduceLeDiff, Nat.reduceEqDiff, Nat.reduceLT, ↓reduceIte, List.length_cons, List.length_nil, List.set_cons_zero, List.set_cons_succ, Nat.le_refl, Nat.zero_le, Nat.zero_sub, Nat.sub_zero, List.nil_append, List.cons_append, Option.toList_some, Option.toList_none, eq_self, c2]
          exact hq M5 h5
    · rw [if_pos c1] at hq
      simp only [n112, t112, ↓xh, ↓xst, ↓xrunE, ↓rG, rL, rSt, updA, List.elem_nil, List.elem_cons, Nat.reduceBEq, Bool.false_eq_true, if_false, if_true, true_and, and_true, true_or, or_true, not_false_eq_true, Nat.reduceAdd, Nat.reduceSub, Nat.reduceLeDiff, Nat.reduceEqDiff, Nat.reduceLT, ↓reduceIte, List.length_cons, List.length_nil, List.set_cons_zero, List.set_cons_succ, Nat.le_refl, Nat.zero_le, Nat.zero_sub, Nat.sub_zero, List.nil_append, List.cons_append, Option.toList_some, Option.toList_none, eq_self, ↓rO1 h2.1, ↓rB h2.1, ic, c1]
      exact hq M2 h2
  · intro k hk; dsimp only; rw [up2_n (by decide)]; exact hnx k hk
theorem rEnt_lt (s : rS) (i : Nat) (x y : Int32) : ∀ l e j, rEnt s i x y l e = some j → j < e + l
  | 0, _, _, h => by cases h
  | l + 1, e, j, h => by
    rw [rEnt] at h
    split at h
    · cases h; omega
    · have := rEnt_lt s i x y l (e + 1) j h; omega
