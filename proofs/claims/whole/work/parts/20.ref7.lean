theorem rTn_1 (r t p : Nat) : ∀ l n s, (rTn r t p l n s).1 = s.1
  | 0, _, _ => rfl
  | l + 1, n, s => by
    rw [rTn, rTn_1 r t p l]
    split
    · exact rTake_1 s r t p n
    · rfl
theorem rTp_1 (r t : Nat) : ∀ l p s, (rTp r t l p s).1 = s.1
  | 0, _, _ => rfl
  | l + 1, p, s => by rw [rTp, rTp_1 r t l, rTn_1]
theorem rTs_1 (r : Nat) : ∀ l t s, (rTs r l t s).1 = s.1
  | 0, _, _ => rfl
  | l + 1, t, s => by rw [rTs, rTs_1 r l, rTp_1]
set_option maxRecDepth 100000 in
set_option maxHeartbeats 4000000 in
theorem rls108 {E : xE} {M0 : xM} {m nx r R : Nat} {Q : Option Value → xM → Nat → Prop} (hb : xb E ≤ m) (hr : r < 6) (hR : R ≤ 6) (s' : rS) (hq : ∀ M', rR M0 M' m s' → Q none M' nx) : ∀ l t s M v3 v4, t + l = R → s.1 9 = nI R → rTs r l t s = s' → rR M0 M m s →
    XZ E 108 (xZ E 108 Q) 2 [some (.ref m), some (.int (nI r)), some (.int (nI t)), v3, v4] [] M nx 0 0 := by
  intro l
  induction l with
  | zero =>
    intro t s M v3 v4 ht h9 hs h
    obtain rfl : t = R := by omega
    refine XZ.runH 60 [2, 12] ?_
    simp only [n108, t108, ↓xh, ↓xst, ↓xrunE, ↓rG, rL, rSt, updA, List.elem_nil, List.elem_cons, Nat.reduceBEq, Bool.false_eq_true, if_false, if_true, true_and, and_true, true_or, or_true, not_false_eq_true, Nat.reduceAdd, Nat.reduceSub, Nat.reduceLeDiff, Nat.reduceEqDiff, Nat.reduceLT, ↓reduceIte, List.length_cons, List.length_nil, List.set_cons_zero, List.set_cons_succ, Nat.le_refl, Nat.zero_le, Nat.zero_sub, Nat.sub_zero, List.nil_append, List.cons_append, Option.toList_some, Option.toList_none, eq_self, ↓rO1 h.1, h9, nI_le (Nat.le_refl t) (show t < 2 ^ 31 by omega)]
    exact hq M (h.to hs)
  | succ l ih =>
    intro t s M v3 v4 ht h9 hs h
    refine XZ.runH 60 [2, 12] ?_
    simp only [n108, t108, ↓xh, ↓xst, ↓xrunE, ↓rG, rL, rSt, updA, List.elem_nil, List.elem_cons, Nat.reduceBEq, Bool.false_eq_true, if_false, if_true, true_and, and_true, true_or, or_true, not_false_eq_true, Nat.reduceAdd, Nat.reduceSub, Nat.reduceLeDiff, Nat.reduceEqDiff, Nat.reduceLT, ↓reduceIte, List.length_cons, List.length_nil, List.set_cons_zero, List.set_cons_succ, Nat.le_refl, Nat.zero_le, Nat.zero_sub, Nat.sub_zero, List.nil_append, List.cons_append, Option.toList_some, Option.toList_none, eq_self, ↓rO1 h.1, h9, nI_ge (show t < R by omega) (show R < 2 ^ 31 by omega)]
    refine rlp108 hb hr (by omega) (rTp r t 8 0 s) (fun M1 v h1 => ?_) 8 0 s M _ rfl rfl h
    refine XZ.runH 60 [2] ?_
    simp only [n108, t108, ↓xh, ↓xst, ↓xrunE, ↓rG, rL, rSt, updA, List.elem_nil, List.elem_cons, Nat.reduceBEq, Bool.false_eq_true, if_false, if_true, true_and, and_true, true_or, or_true, not_false_eq_true, Nat.reduceAdd, Nat.reduceSub, Nat.reduceLeDiff, Nat.reduceEqDiff, Nat.reduceLT, ↓reduceIte, List.length_cons, List.length_nil, List.set_cons_zero, List.set_cons_succ, Nat.le_refl, Nat.zero_le, Nat.zero_sub, Nat.sub_zero, List.nil_append, List.cons_append, Option.toList_some, Option.toList_none, eq_self, nI_1]
    exact ih (t + 1) _ M1 _ _ (by omega) (by rw [rTp_1]; exact h9) hs h1
set_option maxRecDepth 100000 in
set_option maxHeartbeats 4000000 in
theorem rc108 {E : xE} {M0 M : xM} {m nx r R : Nat} {s : rS} {Q : Option Value → xM → Nat → Prop} (hb : xb E ≤ m) (h : rR M0 M m s) (hr : r < 6) (hR : R ≤ 6) (h9 : s.1 9 = nI R) (hq : ∀ M', rR M0 M' m (rTs r R 0 s) → Q none M' nx) : XC E 108 [.ref m, .int (nI r)] M nx Q := by
  refine XC.run 20 [2] ?_
  simp only [n108, t108, ↓xh, ↓xst, ↓xrunE, ↓rG, rL, rSt, updA, List.elem_nil, List.elem_cons, Nat.reduceBEq, Bool.false_eq_true, if_false, if_true, true_and, and_true, true_or, or_true, not_false_eq_true, Nat.reduceAdd, Nat.reduceSub, Nat.reduceLeDiff, Nat.reduceEqDiff, Nat.reduceLT, ↓reduceIte, List.length_cons, List.length_nil, List.set_cons_zero, List.set_cons_succ, Nat.le_refl, Nat.zero_le, Nat.zero_sub, Nat.sub_zero, List.nil_append, List.cons_append, Option.toList_some, Option.toList_none, eq_self]
  exact rls108 hb hr hR _ hq R 0 s M _ _ (by omega) h9 rfl h
/-- the copy of the tables -/
def rCpF (s : rS) (j k : Nat) : Int32 := if j = 12 then s.2 7 k else if j = 13 then s.2 9 k else if j = 14 then s.2 10 k else s.2 j k
def rCpT (s : rS) (k p : Nat) : Bool := decide (¬ s.2 7 k < 0) && rHas s (k / 8) p && decide (¬ s.2 9 k = nI p)
/-- pairs told of the entry k: l ports are left, from p on -/
def rCpP (s : rS) (k : Nat) : Nat → Nat → Nat → Nat
  | 0, _, c => c
  | l + 1, p, c => rCpP s k l (p + 1) (if rCpT s k p then c + 1 else c)
def rCpK (s : rS) : Nat → Nat → Nat → Nat
  | 0, _, c => c
  | l + 1, k, c => rCpK s l (k + 1) (rCpP s k 8 0 c)
theorem nI_div8 : ∀ k, k < 64 → nI k / 8 = nI (k / 8) := by decide +kernel
theorem nI_mod8 : ∀ k, k < 64 → nI k - nI k / 8 * 8 = nI (k % 8) := by decide +kernel
set_option maxRecDepth 100000 in
set_option maxHeartbeats 4000000 in
theorem rlp106 {E : xE} {M : xM} {m nx k : Nat} {s0 s : rS} {Q : Option Value → xM → Nat → Prop} (h : rRep M m s) (hk : k < 48) (e7 : s.2 7 = s0.2 7) (e9 : s.2 9 = s0.2 9) (e5 : s.2 5 = s0.2 5) : ∀ l p c, p + l = 8 →
    XZ E 106 (xZ E 106 Q) 99 [some (.ref m), some (.int (nI (rCpP s0 k l p c))), some (.int (nI k)), some (.int (nI 8))] [] M nx 0 0 →
    XZ E 106 (xZ E 106 Q) 48 [some (.ref m), some (.int (nI c)), some (.int (nI k)), some (.int (nI p))] [] M nx 0 0 := by
  intro l
  induction l with
  | zero =>
    intro p c hp kk
    obtain rfl : p = 8 := by omega
    refine XZ.runH 60 [48, 99] ?_
    simp only [n106, t106, ↓xh, ↓xst, ↓xrunE, ↓rG, rL, rSt, updA, List.elem_nil, List.elem_cons, Nat.reduceBEq, Bool.false_eq_true, if_false, if_true, true_and, and_true, true_or, or_true, not_false_eq_true, Nat.reduceAdd, Nat.reduceSub, Nat.reduceLeDiff, Nat.reduceEqDiff, Nat.reduceLT, ↓reduceIte, List.length_cons, List.length_nil, List.set_cons_zero, List.set_cons_succ, Nat.le_refl, Nat.zero_le, Nat.zero_sub, Nat.sub_zero, List.nil_append, List.cons_append, Option.toList_some, Option.toList_none, eq_self, show (8 : Int32) ≤ nI 8 by decide]
    exact kk
  | succ l ih =>
    intro p c hp kk
    have g : ¬ (8 : Int32) ≤ nI p := nI_ge (show p < 8 by omega) (by decide)
    have eH : rHas s (k / 8) p = rHas s0 (k / 8) p := by unfold rHas; rw [e5]
    rw [rCpP] at kk
    have skip : rCpT s0 k p = false → XZ E 106 (xZ E 106 Q) 91 [some (.ref m), some (.int (nI c)), some (.int (nI k)), some (.int (nI p))] [] M nx 0 0 := by
      intro z
      rw [z] at kk
      refine XZ.runH 60 [48] ?_
      simp only [n106, t106, ↓xh, ↓xst, ↓xrunE, ↓rG, rL, rSt, updA, List.elem_nil, List.elem_cons, Nat.reduceBEq, Bool.false_eq_true, if_false, if_true, true_and, and_true, true_or, or_true, not_false_eq_true, Nat.reduceAdd, Nat.reduceSub, Nat.reduceLeDiff, Nat.reduceEqDiff, Nat.reduceLT, ↓reduceIte, List.length_cons, List.length_nil, List.set_cons_zero, List.set_cons_succ, Nat.le_refl, Nat.zero_le, Nat.zero_sub, Nat.sub_zero, List.nil_append, List.cons_append, Option.toList_some, Option.toList_none, eq_self, nI_1]
      exact ih (p + 1) c (by omega) kk
    refine XZ.runH 60 [48, 91] ?_
    by_cases c1 : s0.2 7 k < 0
    · simp only [n106, t106, ↓xh, ↓xst, ↓xrunE, ↓rG, rL, rSt, updA, List.elem_nil, List.elem_cons, Nat.reduceBEq, Bool.false_eq_true, if_false, if_true, true_and, and_true, true_or, or_true, not_false_eq_true, Nat.reduceAdd, Nat.reduceSub, Nat.reduceLeDiff, Nat.reduceEqDiff, Nat.reduceLT, ↓reduceIte, List.length_cons, List.length_nil, List.set_cons_zero, List.set_cons_succ, Nat.le_refl, Nat.zero_le, Nat.zero_sub, Nat.sub_zero, List.nil_append, List.cons_append, Option.toList_some, Option.toList_none, eq_self, g, ↓rO1 h, ↓rB h, nIx hk, e7, lT c1]
      exact skip (by simp [rCpT, c1])
    · simp only [n106, n116, t106, ↓xh, ↓xst, ↓xrunE, ↓rG, rL, rSt, updA, List.elem_nil, List.elem_cons, Nat.reduceBEq, Bool.false_eq_true, if_false, if_true, true_and, and_true, true_or, or_true, not_false_eq_true, Nat.reduceAdd, Nat.reduceSub, Nat.reduceLeDiff, Nat.reduceEqDiff, Nat.reduceLT, ↓reduceIte, List.length_cons, List.length_nil, List.set_cons_zero, List.set_cons_succ, Nat.le_refl, Nat.zero_le, Nat.zero_sub, Nat.sub_zero, List.nil_append, List.cons_append, Option.toList_some, Option.toList_none, eq_self, g, ↓rO1 h, ↓rB h, nIx hk, e7, lF c1, nI_div8 k (by omega), show ¬ (8 : Int32) = 0 by decide]
      refine rc116 h (by omega) ?_
      rw [eH]
      refine XZ.runH 60 [48, 91] ?_
      by_cases c2 : rHas s0 (k / 8) p = true
      · by_cases c3 : s0.2 9 k = nI p
        · simp only [n106, t106, ↓xh, ↓xst, ↓xrunE, ↓rG, rL, rSt, updA, List.elem_nil, List.elem_cons, Nat.reduceBEq, Bool.false_eq_true, if_false, if_true, true_and, and_true, true_or, or_true, not_false_eq_true, Nat.reduceAdd, Nat.reduceSub, Nat.reduceLeDiff, Nat.reduceEqDiff, Nat.reduceLT, ↓reduceIte, List.length_cons, List.length_nil, List.set_cons_zero, List.set_cons_succ, Nat.le_refl, Nat.zero_le, Nat.zero_sub, Nat.sub_zero, List.nil_append, List.cons_append, Option.toList_some, Option.toList_none, eq_self, c2, show ¬ (1 : Int32) = 0 by decide, ↓rO1 h, ↓rB h, nIx hk, e9, c3]
          exact skip (by simp [rCpT, c3])
        · simp only [n106, t106, ↓xh, ↓xst, ↓xrunE, ↓rG, rL, rSt, updA, List.elem_nil, List.elem_cons, Nat.reduceBEq, Bool.false_eq_true, if_false, if_true, true_and, and_true, true_or, or_true, not_false_eq_true, Nat.reduceAdd, Nat.reduceSub, Nat.reduceLeDiff, Nat.reduceEqDiff, Nat.reduceLT, ↓reduceIte, List.length_cons, List.length_nil, List.set_cons_zero, List.set_cons_succ, Nat.le_refl, Nat.zero_le, Nat.zero_sub, Nat.sub_zero, List.nil_append, List.cons_append, Option.toList_some, Option.toList_none, eq_self, c2, show ¬ (1 : Int32) = 0 by decide, ↓rO1 h, ↓rB h, nIx hk, e9, c3, nI_1]
          have z : rCpT s0 k p = true := by simp [rCpT, c1, c2, c3]
          rw [z] at kk
          exact ih (p + 1) (c + 1) (by omega) kk
      · simp only [n106, t106, ↓xh, ↓xst, ↓xrunE, ↓rG, rL, rSt, updA, List.elem_nil, List.elem_cons, Nat.reduceBEq, Bool.false_eq_true, if_false, if_true, true_and, and_true, true_or, or_true, not_false_eq_true, Nat.reduceAdd, Nat.reduceSub, Nat.reduceLeDiff, Nat.reduceEqDiff, Nat.reduceLT, ↓reduceIte, List.length_cons, List.length_nil, List.set_cons_zero, List.set_cons_succ, Nat.le_refl, Nat.zero_le, Nat.zero_sub, Nat.sub_zero, List.nil_append, List.cons_append, Option.toList_some, Option.toList_none, eq_self, c2]
        exact skip (by simp [rCpT, c2])
set_option maxRecDepth 100000 in
set_option maxHeartbeats 4000000 in
theorem rl106 {E : xE} {M0 : xM} {m nx : Nat} {s : rS} {Q : Option Value → xM → Nat → Prop} (hb : xb E ≤ m) : ∀ l k c M v3, k + l = 48 → rR M0 M m (rPt (rCpF s) s 0 k) →
    (∀ M', rR M0 M' m (rPt (rCpF s) s 0 48) → Q (some (.int (nI (rCpK s l k c)))) M' nx) →
    XZ E 106 (xZ E 106 Q) 4 [some (.ref m), some (.int (nI c)), some (.int (nI k)), v3] [] M nx 0 0 := by
  intro l
  induction l with
  | zero =>
    intro k c M v3 hk h hq
    obtain rfl : k = 48 := by omega
    refine XZ.runH 60 [4] ?_
    simp only [n106, t106, ↓xh, ↓xst, ↓xrunE, ↓rG, rL, rSt, updA, List.elem_nil, List.elem_cons, Nat.reduceBEq, Bool.false_eq_true, if_false, if_true, true_and, and_true, true_or, or_true, not_false_eq_true, Nat.reduceAdd, Nat.reduceSub, Nat.reduceLeDiff, Nat.reduceEqDiff, Nat.reduceLT, ↓reduceIte, List.length_cons, List.length_nil, List.set_cons_zero, List.set_cons_succ, Nat.le_refl, Nat.zero_le, Nat.zero_sub, Nat.sub_zero, List.nil_append, List.cons_append, Option.toList_some, Option.toList_none, eq_self, show (48 : Int32) ≤ nI 48 by decide]
    exact hq M h
  | succ l ih =>
    intro k c M v3 hk h hq
    have g : ¬ (48 : Int32) ≤ nI k := nI_ge (show k < 48 by omega) (by decide)
    have ik := nIx (show k < 48 by omega)
    have e := fun j => rPt_at (rCpF s) s 0 k j
    simp only [Nat.zero_add] at e
    refine XZ.runH 60 [22, 34, 46] ?_
    simp only [n106, t106, ↓xh, ↓xst, ↓xrunE, ↓rG, rL, rSt, updA, List.elem_nil, List.elem_cons, Nat.reduceBEq, Bool.false_eq_true, if_false, if_true, true_and, and_true, true_or, or_true, not_false_eq_true, Nat.reduceAdd, Nat.reduceSub, Nat.reduceLeDiff, Nat.reduceEqDiff, Nat.reduceLT, ↓reduceIte, List.length_cons, List.length_nil, List.set_cons_zero, List.set_cons_succ, Nat.le_refl, Nat.zero_le, Nat.zero_sub, Nat.sub_zero, List.nil_append, List.cons_append, Option.toList_some, Option.toList_none, eq_self, ↓rO1 h.1, ↓rB h.1, g, ik, e, xn0, xbj hb]
    refine XZ.abs (h.arr 12 _ _ (by decide) (by decide)) (fun M1 h1 => ?_)
    refine XZ.runH 60 [22, 34, 46] ?_
    simp only [n106, t106, ↓xh, ↓xst, ↓xrunE, ↓rG, rL, rSt, updA, List.elem_nil, List.elem_cons, Nat.reduceBEq, Bool.false_eq_true, if_false, if_true, true_and, and_true, true_or, or_true, not_false_eq_true, Nat.reduceAdd, Nat.reduceSub, Nat.reduceLeDiff, Nat.reduceEqDiff, Nat.reduceLT, ↓reduceIte, List.length_cons, List.length_nil, List.set_cons_zero, List.set_cons_succ, Nat.le_refl, Nat.zero_le, Nat.zero_sub, Nat.sub_zero, List.nil_append, List.cons_append, Option.toList_some, Option.toList_none, eq_self, ↓rO1 h1.1, ↓rB h1.1, ik, e, up2A, xn0, xbj hb]
    refine XZ.abs (h1.arr 13 _ _ (by decide) (by decide)) (fun M2 h2 => ?_)
    refine XZ.runH 60 [22, 34, 46] ?_
    simp only [n106, t106, ↓xh, ↓xst, ↓xrunE, ↓rG, rL, rSt, updA, List.elem_nil, List.elem_cons, Nat.reduceBEq, Bool.false_eq_true, if_false, if_true, true_and, and_true, true_or, or_true, not_false_eq_true, Nat.reduceAdd, Nat.reduceSub, Nat.reduceLeDiff, Nat.reduceEqDiff, Nat.reduceLT, ↓reduceIte, List.length_cons, List.length_nil, List.set_cons_zero, List.set_cons_succ, Nat.le_refl, Nat.zero_le, Nat.zero_sub, Nat.sub_zero, List.nil_append, List.cons_append, Option.toList_some, Option.toList_none, eq_self, ↓rO1 h2.1, ↓rB h2.1, ik, e, up2A, xn0, xbj hb]
    refine XZ.abs (h2.arr 14 _ _ (by decide) (by decide)) (fun M3 h3 => ?_)
    dsimp only at h3
    have hst : (s.1, up2 (up2 (up2 (rPt (rCpF s) s 0 k).2 12 k (s.2 7 k)) 13 k (s.2 9 k)) 14 k (s.2 10 k)) = rPt (rCpF s) s 0 (k + 1) := by
      refine rPt_step (s := s) (b := 0) (c := k) (fun j => ?_) (fun j i hi => ?_)
      · simp only [Nat.zero_add, up2_at, e, rCpF]
        by_cases a12 : j = 12
        · subst a12; simp
        by_cases a13 : j = 13
        · subst a13; simp
        by_cases a14 : j = 14
        · subst a14; simp
        simp [a12, a13, a14]
      · rw [up2_off (by omega), up2_off (by omega), up2_off (by omega)]
    have h4 := h3.to hst
    have z7 : (rPt (rCpF s) s 0 (k + 1)).2 7 = s.2 7 := by funext i; simp [rPt, rCpF]
    have z9 : (rPt (rCpF s) s 0 (k + 1)).2 9 = s.2 9 := by funext i; simp [rPt, rCpF]
    have z5 : (rPt (rCpF s) s 0 (k + 1)).2 5 = s.2 5 := by funext i; simp [rPt, rCpF]
    refine XZ.runH 60 [48] ?_
    simp only [n106, t106, ↓xh, ↓xst, ↓xrunE, ↓rG, rL, rSt, updA, List.elem_nil, List.elem_cons, Nat.reduceBEq, Bool.false_eq_true, if_false, if_true, true_and, and_true, true_or, or_true, not_false_eq_true, Nat.reduceAdd, Nat.reduceSub, Nat.reduceLeDiff, Nat.reduceEqDiff, Nat.reduceLT, ↓reduceIte, List.length_cons, List.length_nil, List.set_cons_zero, List.set_cons_succ, Nat.le_refl, Nat.zero_le, Nat.zero_sub, Nat.sub_zero, List.nil_append, List.cons_append, Option.toList_some, Option.toList_none, eq_self]
    refine rlp106 h4.1 (by omega) z7 z9 z5 8 0 c rfl ?_
    refine XZ.runH 60 [4] ?_
    simp only [n106, t106, ↓xh, ↓xst, ↓xrunE, ↓rG, rL, rSt, updA, List.elem_nil, List.elem_cons, Nat.reduceBEq, Bool.false_eq_true, if_false, if_true, true_and, and_true, true_or, or_true, not_false_eq_true, Nat.reduceAdd, Nat.reduceSub, Nat.reduceLeDiff, Nat.reduceEqDiff, Nat.reduceLT, ↓reduceIte, List.length_cons, List.length_nil, List.set_cons_zero, List.set_cons_succ, Nat.le_refl, Nat.zero_le, Nat.zero_sub, Nat.sub_zero, List.nil_append, List.cons_append, Option.toList_some, Option.toList_none, eq_self, nI_1]
    refine ih (k + 1) _ M3 _ (by omega) h4 (fun M' h' => ?_)
    have := hq M' h'
    rw [rCpK] at this
    exact this
