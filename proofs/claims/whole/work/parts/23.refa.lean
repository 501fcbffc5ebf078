theorem nI_e8 : ∀ L, L < 9 → nI L = 8 → L = 8 := by decide +kernel
/-- the answer's parts: l are left, from p on -/
def rLk (R c a b : Nat) : Nat → Nat → rS → rS
  | 0, _, s => s
  | l + 1, p, s => rLk R c a b l (p + 1) (if rBit (s.2 34 c) p then (if rGot s R b a then ((rPk s).1, up2 s.2 34 c (s.2 34 c &&& ((1 <<< (nI p &&& 31)) ^^^ -1))) else rPk s) else s)
theorem rPk_9 (s : rS) : (rPk s).1 9 = s.1 9 := by simp [rPk, upd]
theorem rPk_2 (s : rS) : (rPk s).2 = s.2 := rfl
set_option maxRecDepth 100000 in
set_option maxHeartbeats 4000000 in
theorem rl112 {E : xE} {M0 : xM} {m nx R c i a b e : Nat} {Q : Option Value → xM → Nat → Prop} (hb : xb E ≤ m) (hR : R ≤ 6) (ha : a < 8) (hb8 : b < 8) (hc : c < 12) (s' : rS)
    (kk : ∀ M', rR M0 M' m s' → XZ E 112 (xZ E 112 Q) 188 [some (.ref m), some (.int (nI c)), some (.int (nI i)), some (.int (nI a)), some (.int (nI b)), some (.int (nI e)), some (.int (nI 8))] [] M' nx 0 0) :
    ∀ l p s M, p + l = 8 → s.1 9 = nI R → (∀ k, k < 48 → rRt (s.2 8 k)) → rLk R c a b l p s = s' → rR M0 M m s →
    XZ E 112 (xZ E 112 Q) 131 [some (.ref m), some (.int (nI c)), some (.int (nI i)), some (.int (nI a)), some (.int (nI b)), some (.int (nI e)), some (.int (nI p))] [] M nx 0 0 := by
  have ic := nIx hc
  intro l
  induction l with
  | zero =>
    intro p s M hp h9 hnx hs h
    obtain rfl : p = 8 := by omega
    refine XZ.runH 60 [131, 188] ?_
    simp only [n112, t112, ↓xh, ↓xst, ↓xrunE, ↓rG, rL, rSt, updA, List.elem_nil, List.elem_cons, Nat.reduceBEq, Bool.false_eq_true, if_false, if_true, true_and, and_true, true_or, or_true, not_false_eq_true, Nat.reduceAdd, Nat.reduceSub, Nat.reduceLeDiff, Nat.reduceEqDiff, Nat.reduceLT, ↓reduceIte, List.length_cons, List.length_nil, List.set_cons_zero, List.set_cons_succ, Nat.le_refl, Nat.zero_le, Nat.zero_sub, Nat.sub_zero, List.nil_append, List.cons_append, Option.toList_some, Option.toList_none, eq_self, show (8 : Int32) ≤ nI 8 by decide]
    exact kk M (h.to hs)
  | succ l ih =>
    intro p s M hp h9 hnx hs h
    have g : ¬ (8 : Int32) ≤ nI p := nI_ge (show p < 8 by omega) (by decide)
    rw [rLk] at hs
    refine XZ.runH 60 [131, 182] ?_
    by_cases c1 : (s.2 34 c >>> (nI p &&& 31)) &&& 1 = 1
    · rw [if_pos (show rBit (s.2 34 c) p = true by simp [rBit, c1])] at hs
      simp only [n112, n122, t112, ↓xh, ↓xst, ↓xrunE, ↓rG, rL, rSt, updA, List.elem_nil, List.elem_cons, Nat.reduceBEq, Bool.false_eq_true, if_false, if_true, true_and, and_true, true_or, or_true, not_false_eq_true, Nat.reduceAdd, Nat.reduceSub, Nat.reduceLeDiff, Nat.reduceEqDiff, Nat.reduceLT, ↓reduceIte, List.length_cons, List.length_nil, List.set_cons_zero, List.set_cons_succ, Nat.le_refl, Nat.zero_le, Nat.zero_sub, Nat.sub_zero, List.nil_append, List.cons_append, Option.toList_some, Option.toList_none, eq_self, g, ↓rO1 h.1, ↓rB h.1, ic, c1]
      refine rc122 (a := b) (b := a) hb h hR h9 hb8 ha hnx (fun M1 h1 => ?_)
      by_cases c2 : rGot s R b a = true
      · rw [if_pos c2] at hs
        refine XZ.runH 60 [38, 48, 128, 131, 182, 205, 223] ?_
        simp only [n112, t112, ↓xh, ↓xst, ↓xrunE, ↓rG, rL, rSt, updA, List.elem_nil, List.elem_cons, Nat.reduceBEq, Bool.false_eq_true, if_false, if_true, true_and, and_true, true_or, or_true, not_false_eq_true, Nat.reduceAdd, Nat.reduceSub, Nat.reduceLeDiff, Nat.reduceEqDiff, Nat.reduceLT, ↓reduceIte, List.length_cons, List.length_nil, List.set_cons_zero, List.set_cons_succ, Nat.le_refl, Nat.zero_le, Nat.zero_sub, Nat.sub_zero, List.nil_append, List.cons_append, Option.toList_some, Option.toList_none, eq_self, c2, show ¬ (1 : Int32) = 0 by decide, ↓rO1 h1.1, ↓rB h1.1, ic, rPk_2, xn0, xbj hb]
        refine XZ.abs (h1.arr 34 _ _ (by decide) (by decide)) (fun M2 h2 => ?_)
        refine XZ.runH 60 [131] ?_
        simp only [n112, t112, ↓xh, ↓xst, ↓xrunE, ↓rG, rL, rSt, updA, List.elem_nil, List.elem_cons, Nat.reduceBEq, Bool.false_eq_true, if_false, if_true, true_and, and_true, true_or, or_true, not_false_eq_true, Nat.reduceAdd, Nat.reduceSub, Nat.reduceLeDiff, Nat.reduceEqDiff, Nat.reduceLT, ↓reduceIte, List.length_cons, List.length_nil, List.set_cons_zero, List.set_cons_succ, Nat.le_refl, Nat.zero_le, Nat.zero_sub, Nat.sub_zero, List.nil_append, List.cons_append, Option.toList_some, Option.toList_none, eq_self, nI_1]
        refine ih (p + 1) _ M2 (by omega) ?_ ?_ hs h2
        · dsimp only; rw [rPk_9]; exact h9
        · intro k hk; dsimp only; rw [up2_n (by decide)]; exact hnx k hk
      · rw [if_neg c2] at hs
        refine XZ.runH 60 [131] ?_
        simp only [n112, t112, ↓xh, ↓xst, ↓xrunE, ↓rG, rL, rSt, updA, List.elem_nil, List.elem_cons, Nat.reduceBEq, Bool.false_eq_true, if_false, if_true, true_and, and_true, true_or, or_true, not_false_eq_true, Nat.reduceAdd, Nat.reduceSub, Nat.reduceLeDiff, Nat.reduceEqDiff, Nat.reduceLT, ↓reduceIte, List.length_cons, List.length_nil, List.set_cons_zero, List.set_cons_succ, Nat.le_refl, Nat.zero_le, Nat.zero_sub, Nat.sub_zero, List.nil_append, List.cons_append, Option.toList_some, Option.toList_none, eq_self, c2, nI_1]
        exact ih (p + 1) (rPk s) M1 (by omega) (by rw [rPk_9]; exact h9) hnx hs h1
    · rw [if_neg (show ¬ rBit (s.2 34 c) p = true by simp [rBit, c1])] at hs
      simp only [n112, t112, ↓xh, ↓xst, ↓xrunE, ↓rG, rL, rSt, updA, List.elem_nil, List.elem_cons, Nat.reduceBEq, Bool.false_eq_true, if_false, if_true, true_and, and_true, true_or, or_true, not_false_eq_true, Nat.reduceAdd, Nat.reduceSub, Nat.reduceLeDiff, Nat.reduceEqDiff, Nat.reduceLT, ↓reduceIte, List.length_cons, List.length_nil, List.set_cons_zero, List.set_cons_succ, Nat.le_refl, Nat.zero_le, Nat.zero_sub, Nat.sub_zero, List.nil_append, List.cons_append, Option.toList_some, Option.toList_none, eq_self, g, ↓rO1 h.1, ↓rB h.1, ic, c1]
      refine XZ.runH 60 [131] ?_
      simp only [n112, t112, ↓xh, ↓xst, ↓xrunE, ↓rG, rL, rSt, updA, List.elem_nil, List.elem_cons, Nat.reduceBEq, Bool.false_eq_true, if_false, if_true, true_and, and_true, true_or, or_true, not_false_eq_true, Nat.reduceAdd, Nat.reduceSub, Nat.reduceLeDiff, Nat.reduceEqDiff, Nat.reduceLT, ↓reduceIte, List.length_cons, List.length_nil, List.set_cons_zero, List.set_cons_succ, Nat.le_refl, Nat.zero_le, Nat.zero_sub, Nat.sub_zero, List.nil_append, List.cons_append, Option.toList_some, Option.toList_none, eq_self, nI_1]
      exact ih (p + 1) _ M (by omega) h9 hnx hs h
theorem rLk_9 (R c a b : Nat) : ∀ l p s, (rLk R c a b l p s).1 9 = s.1 9
  | 0, _, _ => rfl
  | l + 1, p, s => by
    rw [rLk, rLk_9 R c a b l]
    split
    · split
      · exact rPk_9 s
      · exact rPk_9 s
    · rfl
theorem rLk_2 (R c a b : Nat) {j : Nat} (hj : j ≠ 34) : ∀ l p s, (rLk R c a b l p s).2 j = s.2 j
  | 0, _, _ => rfl
  | l + 1, p, s => by
    rw [rLk, rLk_2 R c a b hj l]
    split
    · split
      · exact up2_n hj
      · rfl
    · rfl
/-- a command whose entry is e, of a list of L + 1 -/
def rAt2 (s : rS) (R c i a b e L : Nat) : rS :=
  let s3 := rLk R c a b 8 0 (s.1, up2 s.2 24 (8 * i + e) (s.1 21))
  if ¬ s3.2 34 c = 0 then s3 else
  let s4 : rS := (s3.1, up2 (up2 s3.2 31 c 2) 37 c (s3.2 23 (8 * i + e)))
  if rGot s4 R a b then rStk (rPk s4) i e L else rPk s4
set_option maxRecDepth 100000 in
set_option maxHeartbeats 4000000 in
theorem rm112 {E : xE} {M0 M : xM} {m nx R c i a b e L : Nat} {s : rS} {v6 : Option Value} {Q : Option Value → xM → Nat → Prop} (hb : xb E ≤ m) (h : rR M0 M m s) (hR : R ≤ 6) (h9 : s.1 9 = nI R) (hnx : ∀ k, k < 48 → rRt (s.2 8 k)) (ha : a < 8) (hb8 : b < 8) (hc : c < 12) (hi : i < 16) (he : e < 8) (hL : L < 8) (hl : s.2 20 i = nI (L + 1))
    (hq : ∀ M', rR M0 M' m (rAt2 s R c i a b e L) → Q none M' nx) :
    XZ E 112 (xZ E 112 Q) 112 [some (.ref m), some (.int (nI c)), some (.int (nI i)), some (.int (nI a)), some (.int (nI b)), some (.int (nI e)), v6] [] M nx 0 0 := by
  have ic := nIx hc
  have ie := nIx (show 8 * i + e < 128 by omega)
  refine XZ.runH 60 [38, 48, 128, 131, 182, 205, 223] ?_
  simp only [n112, t112, ↓xh, ↓xst, ↓xrunE, ↓rG, rL, rSt, updA, List.elem_nil, List.elem_cons, Nat.reduceBEq, Bool.false_eq_true, if_false, if_true, true_and, and_true, true_or, or_true, not_false_eq_true, Nat.reduceAdd, Nat.reduceSub, Nat.reduceLeDiff, Nat.reduceEqDiff, Nat.reduceLT, ↓reduceIte, List.length_cons, List.length_nil, List.set_cons_zero, List.set_cons_succ, Nat.le_refl, Nat.zero_le, Nat.zero_sub, Nat.sub_zero, List.nil_append, List.cons_append, Option.toList_some, Option.toList_none, eq_self, ↓rO1 h.1, ↓rB h.1, nIm8, nI_add, ie, xn0, xbj hb]
  refine XZ.abs (h.arr 24 _ _ (by decide) (by decide)) (fun M1 h1 => ?_)
  refine XZ.runH 60 [131] ?_
  simp only [n112, t112, ↓xh, ↓xst, ↓xrunE, ↓rG, rL, rSt, updA, List.elem_nil, List.elem_cons, Nat.reduceBEq, Bool.false_eq_true, if_false, if_true, true_and, and_true, true_or, or_true, not_false_eq_true, Nat.reduceAdd, Nat.reduceSub, Nat.reduceLeDiff, Nat.reduceEqDiff, Nat.reduceLT, ↓reduceIte, List.length_cons, List.length_nil, List.set_cons_zero, List.set_cons_succ, Nat.le_refl, Nat.zero_le, Nat.zero_sub, Nat.sub_zero, List.nil_append, List.cons_append, Option.toList_some, Option.toList_none, eq_self]
  rw [rAt2] at hq
  dsimp only at hq
  refine rl112 hb hR ha hb8 hc _ (fun M2 h2 => ?_) 8 0 (s.1, up2 s.2 24 (8 * i + e) (s.1 21)) M1 rfl h9 ?_ rfl h1
  · generalize hs3 : rLk R c a b 8 0 (s.1, up2 s.2 24 (8 * i + e) (s.1 21)) = s3 at h2 hq
    have e9 : s3.1 9 = nI R := by rw [← hs3, rLk_9]; exact h9
    have e8 : s3.2 8 = s.2 8 := by rw [← hs3, rLk_2 _ _ _ _ (by decide)]; dsimp only; rw [up2_n (by decide)]
    have e20 : s3.2 20 = s.2 20 := by rw [← hs3, rLk_2 _ _ _ _ (by decide)]; dsimp only; rw [up2_n (by decide)]
    refine XZ.runH 60 [38, 48, 128, 182, 205, 223] ?_
    by_cases c1 : s3.2 34 c = 0
    · rw [if_neg (by simp [c1])] at hq
      simp only [n112, t112, ↓xh, ↓xst, ↓xrunE, ↓rG, rL, rSt, updA, List.elem_nil, List.elem_cons, Nat.reduceBEq, Bool.false_eq_true, if_false, if_true, true_and, and_true, true_or, or_true, not_false_eq_true, Nat.reduceAdd, Nat.reduceSub, Nat.reduceLeDiff, Nat.reduceEqDiff, Nat.reduceLT, ↓reduceIte, List.length_cons, List.length_nil, List.set_cons_zero, List.set_cons_succ, Nat.le_refl, Nat.zero_le, Nat.zero_sub, Nat.sub_zero, List.nil_append, List.cons_append, Option.toList_some, Option.toList_none, eq_self, ↓rO1 h2.1, ↓rB h2.1, ic, c1, xn0, xbj hb]
      refine XZ.abs (h2.arr 31 _ _ (by decide) (by decide)) (fun M3 h3 => ?_)
      refine XZ.runH 60 [38, 48, 128, 182, 205, 223] ?_
      simp only [n112, t112, ↓xh, ↓xst, ↓xrunE, ↓rG, rL, rSt, updA, List.elem_nil, List.elem_cons, Nat.reduceBEq, Bool.false_eq_true, if_false, if_true, true_and, and_true, true_or, or_true, not_false_eq_true, Nat.reduceAdd, Nat.reduceSub, Nat.reduceLeDiff, Nat.reduceEqDiff, Nat.reduceLT, ↓reduceIte, List.length_cons, List.length_nil, List.set_cons_zero, List.set_cons_succ, Nat.le_refl, Nat.zero_le, Nat.zero_sub, Nat.sub_zero, List.nil_append, List.cons_append, Option.toList_some, Option.toList_none, eq_self, ↓rO1 h3.1, ↓rB h3.1, nIm8, nI_add, ic, ie, up2A, xn0, xbj hb]
      refine XZ.abs (h3.arr 37 _ _ (by decide) (by decide)) (fun M4 h4 => ?_)
      refine XZ.runH 60 [38, 48, 128, 182, 205, 223] ?_
      simp only [n112, n122, t112, ↓xh, ↓xst, ↓xrunE, ↓rG, rL, rSt, updA, List.elem_nil, List.elem_cons, Nat.reduceBEq, Bool.false_eq_true, if_false, if_true, true_and, and_true, true_or, or_true, not_false_eq_true, Nat.reduceAdd, Nat.reduceSub, Nat.reduceLeDiff, Nat.reduceEqDiff, Nat.reduceLT, ↓reduceIte, List.length_cons, List.length_nil, List.set_cons_zero, List.set_cons_succ, Nat.le_refl, Nat.zero_le, Nat.zero_sub, Nat.sub_zero, List.nil_append, List.cons_append, Option.toList_some, Option.toList_none, eq_self, ↓rO1 h4.1]
      refine rc122 (a := a) (b := b) hb h4 hR e9 ha hb8 ?_ (fun M5 h5 => ?_)
      · intro k hk; dsimp only; rw [up2_n (by decide), up2_n (by decide), e8]; exact hnx k hk
      · dsimp only at h5 ⊢
        by_cases c2 : rGot (s3.1, up2 (up2 s3.2 31 c 2) 37 c (s3.2 23 (8 * i + e))) R a b = true
        · rw [if_pos c2] at hq
          refine XZ.runH 60 [] ?_
          simp only [n112, n110, t112, ↓xh, ↓xst, ↓xrunE, ↓rG, rL, rSt, updA, List.elem_nil, List.elem_cons, Nat.reduceBEq, Bool.false_eq_true, if_false, if_true, true_and, and_true, true_or, or_true, not_false_eq_true, Nat.reduceAdd, Nat.reduceSub, Nat.reduceLeDiff, Nat.reduceEqDiff, Nat.reduceLT, ↓reduceIte, List.length_cons, List.length_nil, List.set_cons_zero, List.set_cons_succ, Nat.le_refl, Nat.zero_le, Nat.zero_sub, Nat.sub_zero, List.nil_append, List.cons_append, Option.toList_some, Option.toList_none, eq_self, c2, show ¬ (1 : Int32) = 0 by decide, ↓rO1 h5.1]
          refine rc110 hb h5 hi hL he ?_ (fun M6 h6 => ?_)
          · rw [rPk_2]; dsimp only; rw [up2_n (by decide), up2_n (by decide), e20]; exact hl
          · refine XZ.runH 60 [] ?_
            simp only [n112, t112, ↓xh, ↓xst, ↓xrunE, ↓rG, rL, rSt, updA, List.elem_nil, List.elem_cons, Nat.reduceBEq, Bool.false_eq_true, if_false, if_true, true_and, and_true, true_or, or_true, not_false_eq_true, Nat.reduceAdd, Nat.reduceSub, Nat.reduceLeDiff, Nat.reduceEqDiff, Nat.reduceLT, ↓reduceIte, List.length_cons, List.length_nil, List.set_cons_zero, List.set_cons_succ, Nat.le_refl, Nat.zero_le, Nat.zero_sub, Nat.sub_zero, List.nil_append, List.cons_append, Option.toList_some, Option.toList_none, eq_self]
            exact hq M6 h6
        · rw [if_neg c2] at hq
          refine XZ.runH 60 [] ?_
          simp only [n112, t112, ↓xh, ↓xst, ↓xrunE, ↓rG, rL, rSt, updA, List.elem_nil, List.elem_cons, Nat.reduceBEq, Bool.false_eq_true, if_false, if_true, true_and, and_true, true_or, or_true, not_false_eq_true, Nat.reduceAdd, Nat.reduceSub, Nat.reduceLeDiff, Nat.reduceEqDiff, Nat.reduceLT, ↓reduceIte, List.length_cons, List.length_nil, List.set_cons_zero, List.set_cons_succ, Nat.le_refl, Nat.zero_le, Nat.zero_sub, Nat.sub_zero, List.nil_append, List.cons_append, Option.toList_some, Option.toList_none, eq_self, c2]
          exact hq M5 h5
    · rw [if_pos c1] at hq
      simp only [n112, t112, ↓xh, ↓xst, ↓xrunE, ↓rG, rL, rSt, updA, List.elem_nil, List.elem_cons, Nat.reduceBEq, Bool.false_eq_true, if_false, if_true, true_and, and_true, true_or, or_true, not_false_eq_true, Nat.reduceAdd, Nat.reduceSub, Nat.reduceLeDiff, Nat.reduceEqDiff, Nat.reduceLT, ↓reduceIte, List.length_cons, List.length_nil, List.set_cons_zero, List.set_cons_succ, Nat.le_refl, Nat.zero_le, Nat.zero_sub, Nat.sub_zero, List.nil_append, List.cons_append, Option.toList_some, Option.toList_none, eq_self, ↓rO1 h2.1, ↓rB h2.1, ic, c1]
      exact hq M2 h2
  · intro k hk; dsimp only; rw [up2_n (by decide)]; exact hnx k hk
theorem rEnt_lt (s : rS) (i : Nat) (x y : Int32) : ∀ l e j, rEnt s i x y l e = some j → j < e + l
  | 0, _, _, h => by cases h
  | l + 1, e, j, h => by
    rw [rEnt] at h
    split at h
    · cases h; omega
    · have := rEnt_lt s i x y l (e + 1) j h; omega
theorem rCar_20 (s : rS) (i c q L : Nat) : (rCar s i c q L).2 20 i = nI (L + 1) := by
  rw [rCar]; dsimp only; split <;> simp [up2]
theorem rCar_2 (s : rS) (i c q L : Nat) {j : Nat} (hj : j ≠ 20 ∧ j ≠ 19 ∧ j ≠ 21 ∧ j ≠ 22 ∧ j ≠ 23 ∧ j ≠ 18) : (rCar s i c q L).2 j = s.2 j := by
  obtain ⟨h1, h2, h3, h4, h5, h6⟩ := hj
  rw [rCar]; dsimp only; split
  · rw [up2_n h5, up2_n h4, up2_n h3, up2_n h2, up2_n h1]
  · rw [up2_n h6, up2_n h5, up2_n h4, up2_n h3, up2_n h2, up2_n h1]
def rAt1 (s : rS) (c : Nat) : rS := (s.1, up2 (up2 s.2 35 c (s.2 35 c + 1)) 36 c (s.1 21))
def rAtM (s s1 : rS) (R c i a b L : Nat) : rS :=
  if rGot (rAt1 s c) R a b = false ∨ ¬ s1.2 17 i = 0 then s1 else
  match rEnt s1 i (nI c) (s1.2 30 c) L 0 with
  | some e => rAt2 s1 R c i a b e (L - 1)
  | none => if L = 8 then s1 else rAt2 (rCar s1 i c (s.2 32 c).toNatClampNeg L) R c i a b L L
def rAtt (s : rS) (R c : Nat) : rS := rAtM s (rPk (rAt1 s c)) R c (rSv s c) (rCn s c) (rSn s c) (s.2 20 (rSv s c)).toNatClampNeg
/-- what an attempt asks of the state -/
def rK (s : rS) (R c : Nat) : Prop := R ≤ 6 ∧ s.1 9 = nI R ∧ (∀ k, k < 48 → rRt (s.2 8 k)) ∧ rSe s c ∧ (∀ i, i < 16 → ∃ L, L ≤ 8 ∧ s.2 20 i = nI L) ∧ ∃ q, q < 8 ∧ s.2 32 c = nI q
set_option maxRecDepth 100000 in
set_option maxHeartbeats 4000000 in
theorem rc112 {E : xE} {M0 M : xM} {m nx c R : Nat} {s : rS} {Q : Option Value → xM → Nat → Prop} (hb : xb E ≤ m) (h : rR M0 M m s) (hk : rK s R c) (hq : ∀ M', rR M0 M' m (rAtt s R c) → Q none M' nx) : XC E 112 [.ref m, .int (nI c)] M nx Q := by
  obtain ⟨hR, h9, hnx, ⟨hc, A, i, B, hA, hA', hi, hi', hB, hB', eA, ei, eB⟩, hl, q, hq8, hkq⟩ := hk
  obtain ⟨L, hL, eL⟩ := hl i hi'
  have ic := nIx hc
  have ii := nIx hi'
  rw [rAtt, eA, ei, eB, eL, nI_clamp (show L < 2 ^ 31 by omega)] at hq
  refine XC.run 60 [38, 48, 128, 182, 205, 223] ?_
  simp only [n112, t112, ↓xh, ↓xst, ↓xrunE, ↓rG, rL, rSt, updA, List.elem_nil, List.elem_cons, Nat.reduceBEq, Bool.false_eq_true, if_false, if_true, true_and, and_true, true_or, or_true, not_false_eq_true, Nat.reduceAdd, Nat.reduceSub, Nat.reduceLeDiff, Nat.reduceEqDiff, Nat.reduceLT, ↓reduceIte, List.length_cons, List.length_nil, List.set_cons_zero, List.set_cons_succ, Nat.le_refl, Nat.zero_le, Nat.zero_sub, Nat.sub_zero, List.nil_append, List.cons_append, Option.toList_some, Option.toList_none, eq_self, ↓rO1 h.1, ↓rB h.1, ic, hA, hi, ii, hB, nI_div8 A hA', nI_div8 B hB', show ¬ (8 : Int32) = 0 by decide, xn0, xbj hb]
  refine XZ.abs (h.arr 35 _ _ (by decide) (by decide)) (fun M1 h1 => ?_)
  refine XZ.runH 60 [38, 48, 128, 182, 205, 223] ?_
  simp only [n112, t112, ↓xh, ↓xst, ↓xrunE, ↓rG, rL, rSt, updA, List.elem_nil, List.elem_cons, Nat.reduceBEq, Bool.false_eq_true, if_false, if_true, true_and, and_true, true_or, or_true, not_false_eq_true, Nat.reduceAdd, Nat.reduceSub, Nat.reduceLeDiff, Nat.reduceEqDiff, Nat.reduceLT, ↓reduceIte, List.length_cons, List.length_nil, List.set_cons_zero, List.set_cons_succ, Nat.le_refl, Nat.zero_le, Nat.zero_sub, Nat.sub_zero, List.nil_append, List.cons_append, Option.toList_some, Option.toList_none, eq_self, ↓rO1 h1.1, ↓rB h1.1, ic, xn0, xbj hb]
  refine XZ.abs (h1.arr 36 _ _ (by decide) (by decide)) (fun M2 h2 => ?_)
  refine XZ.runH 60 [38, 48, 128, 182, 205, 223] ?_
  simp only [n112, n122, t112, ↓xh, ↓xst, ↓xrunE, ↓rG, rL, rSt, updA, List.elem_nil, List.elem_cons, Nat.reduceBEq, Bool.false_eq_true, if_false, if_true, true_and, and_true, true_or, or_true, not_false_eq_true, Nat.reduceAdd, Nat.reduceSub, Nat.reduceLeDiff, Nat.reduceEqDiff, Nat.reduceLT, ↓reduceIte, List.length_cons, List.length_nil, List.set_cons_zero, List.set_cons_succ, Nat.le_refl, Nat.zero_le, Nat.zero_sub, Nat.sub_zero, List.nil_append, List.cons_append, Option.toList_some, Option.toList_none, eq_self, ↓rO1 h2.1]
  have h2' : rR M0 M2 m (rAt1 s c) := h2
  refine rc122 (a := A / 8) (b := B / 8) hb h2' hR h9 (by omega) (by omega) ?_ (fun M3 h3 => ?_)
  · intro k hk; rw [rAt1]; dsimp only; rw [up2_n (by decide), up2_n (by decide)]; exact hnx k hk
  · have z : ∀ j, j ≠ 35 → j ≠ 36 → (rPk (rAt1 s c)).2 j = s.2 j := fun j n1 n2 => by
      show up2 (up2 s.2 35 c (s.2 35 c + 1)) 36 c (s.1 21) j = s.2 j
      rw [up2_n n2, up2_n n1]
    have z9 : (rPk (rAt1 s c)).1 9 = nI R := by rw [rPk_9]; exact h9
    generalize rPk (rAt1 s c) = s1 at h3 hq z z9
    have y20 := z 20 (by decide) (by decide)
    have y32 := z 32 (by decide) (by decide)
    have y8 := z 8 (by decide) (by decide)
    rw [rAtM, hkq, nI_clamp (show q < 2 ^ 31 by omega)] at hq
    by_cases c1 : rGot (rAt1 s c) R (A / 8) (B / 8) = true
    · by_cases c2 : s1.2 17 i = 0
      · rw [if_neg (by simp [c1, c2])] at hq
        refine XZ.runH 60 [] ?_
        simp only [n112, n123, t112, ↓xh, ↓xst, ↓xrunE, ↓rG, rL, rSt, updA, List.elem_nil, List.elem_cons, Nat.reduceBEq, Bool.false_eq_true, if_false, if_true, true_and, and_true, true_or, or_true, not_false_eq_true, Nat.reduceAdd, Nat.reduceSub, Nat.reduceLeDiff, Nat.reduceEqDiff, Nat.reduceLT, ↓reduceIte, List.length_cons, List.length_nil, List.set_cons_zero, List.set_cons_succ, Nat.le_refl, Nat.zero_le, Nat.zero_sub, Nat.sub_zero, List.nil_append, List.cons_append, Option.toList_some, Option.toList_none, eq_self, c1, c2, show ¬ (1 : Int32) = 0 by decide, ↓rO1 h3.1, ↓rB h3.1, ic, ii]
        refine rc123 (i := i) (L := L) h3.1 hi' hL (by rw [y20]; exact eL) ?_
        cases he : rEnt s1 i (nI c) (s1.2 30 c) L 0 with
        | some e =>
          rw [he] at hq
          dsimp only at hq
          have lt := rEnt_lt _ _ _ _ _ _ _ he
          obtain ⟨K, rfl⟩ : ∃ K, L = K + 1 := ⟨L - 1, by omega⟩
          refine XZ.runH 60 [112] ?_
          simp only [n112, t112, ↓xh, ↓xst, ↓xrunE, ↓rG, rL, rSt, updA, List.elem_nil, List.elem_cons, Nat.reduceBEq, Bool.false_eq_true, if_false, if_true, true_and, and_true, true_or, or_true, not_false_eq_true, Nat.reduceAdd, Nat.reduceSub, Nat.reduceLeDiff, Nat.reduceEqDiff, Nat.reduceLT, ↓reduceIte, List.length_cons, List.length_nil, List.set_cons_zero, List.set_cons_succ, Nat.le_refl, Nat.zero_le, Nat.zero_sub, Nat.sub_zero, List.nil_append, List.cons_append, Option.toList_some, Option.toList_none, eq_self, Option.elim, lF (nI_pos (show e < 2 ^ 31 by omega))]
          exact rm112 hb h3 hR z9 (by rw [y8]; exact hnx) (by omega) (by omega) hc hi' (by omega) (by omega) (by rw [y20]; exact eL) hq
        | none =>
          rw [he] at hq
          dsimp only at hq
          refine XZ.runH 60 [112] ?_
          by_cases c8 : L = 8
          · subst c8
            rw [if_pos rfl] at hq
            simp only [n112, t112, ↓xh, ↓xst, ↓xrunE, ↓rG, rL, rSt, updA, List.elem_nil, List.elem_cons, Nat.reduceBEq, Bool.false_eq_true, if_false, if_true, true_and, and_true, true_or, or_true, not_false_eq_true, Nat.reduceAdd, Nat.reduceSub, Nat.reduceLeDiff, Nat.reduceEqDiff, Nat.reduceLT, ↓reduceIte, List.length_cons, List.length_nil, List.set_cons_zero, List.set_cons_succ, Nat.le_refl, Nat.zero_le, Nat.zero_sub, Nat.sub_zero, List.nil_append, List.cons_append, Option.toList_some, Option.toList_none, eq_self, Option.elim, show ¬ (0 : Int32) ≤ -1 by decide, show (-1 : Int32) < 0 by decide, ↓rO1 h3.1, ↓rB h3.1, ii, y20, eL, show nI 8 = 8 by decide]
            exact hq M3 h3
          · rw [if_neg c8] at hq
            have n8 : ¬ nI L = 8 := fun z => c8 (nI_e8 L (by omega) z)
            simp only [n112, n124, t112, ↓xh, ↓xst, ↓xrunE, ↓rG, rL, rSt, updA, List.elem_nil, List.elem_cons, Nat.reduceBEq, Bool.false_eq_true, if_false, if_true, true_and, and_true, true_or, or_true, not_false_eq_true, Nat.reduceAdd, Nat.reduceSub, Nat.reduceLeDiff, Nat.reduceEqDiff, Nat.reduceLT, ↓reduceIte, List.length_cons, List.length_nil, List.set_cons_zero, List.set_cons_succ, Nat.le_refl, Nat.zero_le, Nat.zero_sub, Nat.sub_zero, List.nil_append, List.cons_append, Option.toList_some, Option.toList_none, eq_self, Option.elim, show ¬ (0 : Int32) ≤ -1 by decide, show (-1 : Int32) < 0 by decide, ↓rO1 h3.1, ↓rB h3.1, ii, y20, eL, n8]
            refine rc124 (q := q) (L := L) hb h3 hi' hc hq8 (by omega) (by rw [y20]; exact eL) (by rw [y32]; exact hkq) (fun M4 h4 => ?_)
            refine XZ.runH 60 [112] ?_
            simp only [n112, t112, ↓xh, ↓xst, ↓xrunE, ↓rG, rL, rSt, updA, List.elem_nil, List.elem_cons, Nat.reduceBEq, Bool.false_eq_true, if_false, if_true, true_and, and_true, true_or, or_true, not_false_eq_true, Nat.reduceAdd, Nat.reduceSub, Nat.reduceLeDiff, Nat.reduceEqDiff, Nat.reduceLT, ↓reduceIte, List.length_cons, List.length_nil, List.set_cons_zero, List.set_cons_succ, Nat.le_refl, Nat.zero_le, Nat.zero_sub, Nat.sub_zero, List.nil_append, List.cons_append, Option.toList_some, Option.toList_none, eq_self]
            refine rm112 hb h4 hR z9 ?_ (by omega) (by omega) hc hi' (by omega) (by omega) ?_ hq
            · rw [rCar_2 _ _ _ _ _ (by decide), y8]; exact hnx
            · exact rCar_20 _ _ _ _ _
      · rw [if_pos (Or.inr c2)] at hq
        refine XZ.runH 60 [] ?_
        simp only [n112, t112, ↓xh, ↓xst, ↓xrunE, ↓rG, rL, rSt, updA, List.elem_nil, List.elem_cons, Nat.reduceBEq, Bool.false_eq_true, if_false, if_true, true_and, and_true, true_or, or_true, not_false_eq_true, Nat.reduceAdd, Nat.reduceSub, Nat.reduceLeDiff, Nat.reduceEqDiff, Nat.reduceLT, ↓reduceIte, List.length_cons, List.length_nil, List.set_cons_zero, List.set_cons_succ, Nat.le_refl, Nat.zero_le, Nat.zero_sub, Nat.sub_zero, List.nil_append, List.cons_append, Option.toList_some, Option.toList_none, eq_self, c1, c2, show ¬ (1 : Int32) = 0 by decide, ↓rO1 h3.1, ↓rB h3.1, ii]
        exact hq M3 h3
    · rw [if_pos (Or.inl (by simpa using c1))] at hq
      refine XZ.runH 60 [] ?_
      simp only [n112, t112, ↓xh, ↓xst, ↓xrunE, ↓rG, rL, rSt, updA, List.elem_nil, List.elem_cons, Nat.reduceBEq, Bool.false_eq_true, if_false, if_true, true_and, and_true, true_or, or_true, not_false_eq_true, Nat.reduceAdd, Nat.reduceSub, Nat.reduceLeDiff, Nat.reduceEqDiff, Nat.reduceLT, ↓reduceIte, List.length_cons, List.length_nil, List.set_cons_zero, List.set_cons_succ, Nat.le_refl, Nat.zero_le, Nat.zero_sub, Nat.sub_zero, List.nil_append, List.cons_append, Option.toList_some, Option.toList_none, eq_self, c1]
      exact hq M3 h3
