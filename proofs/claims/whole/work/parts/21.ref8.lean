set_option maxRecDepth 100000 in
set_option maxHeartbeats 4000000 in
theorem rc106 {E : xE} {M0 M : xM} {m nx : Nat} {s : rS} {Q : Option Value → xM → Nat → Prop} (hb : xb E ≤ m) (h : rR M0 M m s) (hq : ∀ M', rR M0 M' m (rPt (rCpF s) s 0 48) → Q (some (.int (nI (rCpK s 48 0 0)))) M' nx) : XC E 106 [.ref m] M nx Q := by
  refine XC.run 20 [4] ?_
  simp only [n106, t106, ↓xh, ↓xst, ↓xrunE, ↓rG, rL, rSt, updA, List.elem_nil, List.elem_cons, Nat.reduceBEq, Bool.false_eq_true, if_false, if_true, true_and, and_true, true_or, or_true, not_false_eq_true, Nat.reduceAdd, Nat.reduceSub, Nat.reduceLeDiff, Nat.reduceEqDiff, Nat.reduceLT, ↓reduceIte, List.length_cons, List.length_nil, List.set_cons_zero, List.set_cons_succ, Nat.le_refl, Nat.zero_le, Nat.zero_sub, Nat.sub_zero, List.nil_append, List.cons_append, Option.toList_some, Option.toList_none, eq_self]
  exact rl106 hb 48 0 0 M _ rfl (h.to (rPt_0 _ _ _).symm) hq
/-- zones: what was known, then what is learned -/
def rZ1 (s : rS) (j k : Nat) : Int32 := if j = 15 then (if ¬ s.2 7 k < 0 ∧ ¬ s.2 11 k = 0 then 1 else 0) else s.2 j k
def rZ2 (s : rS) (j k : Nat) : Int32 := if j = 11 then (if 0 < s.2 7 k ∧ ¬ s.2 15 (8 * (s.2 8 k).toNatClampNeg + k % 8) = 0 then 1 else s.2 11 k) else s.2 j k
set_option maxRecDepth 100000 in
set_option maxHeartbeats 4000000 in
theorem rla109 {E : xE} {M0 : xM} {m nx : Nat} {s : rS} {Q : Option Value → xM → Nat → Prop} (hb : xb E ≤ m) (kk : ∀ M', rR M0 M' m (rPt (rZ1 s) s 0 48) → XZ E 109 (xZ E 109 Q) 43 [some (.ref m), some (.int (nI 48))] [] M' nx 0 0) : ∀ l k M, k + l = 48 → rR M0 M m (rPt (rZ1 s) s 0 k) →
    XZ E 109 (xZ E 109 Q) 2 [some (.ref m), some (.int (nI k))] [] M nx 0 0 := by
  intro l
  induction l with
  | zero =>
    intro k M hk h
    obtain rfl : k = 48 := by omega
    refine XZ.runH 60 [2, 43] ?_
    simp only [n109, t109, ↓xh, ↓xst, ↓xrunE, ↓rG, rL, rSt, updA, List.elem_nil, List.elem_cons, Nat.reduceBEq, Bool.false_eq_true, if_false, if_true, true_and, and_true, true_or, or_true, not_false_eq_true, Nat.reduceAdd, Nat.reduceSub, Nat.reduceLeDiff, Nat.reduceEqDiff, Nat.reduceLT, ↓reduceIte, List.length_cons, List.length_nil, List.set_cons_zero, List.set_cons_succ, Nat.le_refl, Nat.zero_le, Nat.zero_sub, Nat.sub_zero, List.nil_append, List.cons_append, Option.toList_some, Option.toList_none, eq_self, show (48 : Int32) ≤ nI 48 by decide]
    exact kk M h
  | succ l ih =>
    intro k M hk h
    have g : ¬ (48 : Int32) ≤ nI k := nI_ge (show k < 48 by omega) (by decide)
    have ik := nIx (show k < 48 by omega)
    have e := fun j => rPt_at (rZ1 s) s 0 k j
    simp only [Nat.zero_add] at e
    have rest : ∀ x, x = rZ1 s 15 k → ∀ M1, rR M0 M1 m (s.1, up2 (rPt (rZ1 s) s 0 k).2 15 k x) → XZ E 109 (xZ E 109 Q) 37 [some (.ref m), some (.int (nI k))] [] M1 nx 0 0 := by
      intro x hx M1 h1
      refine XZ.runH 60 [2] ?_
      simp only [n109, t109, ↓xh, ↓xst, ↓xrunE, ↓rG, rL, rSt, updA, List.elem_nil, List.elem_cons, Nat.reduceBEq, Bool.false_eq_true, if_false, if_true, true_and, and_true, true_or, or_true, not_false_eq_true, Nat.reduceAdd, Nat.reduceSub, Nat.reduceLeDiff, Nat.reduceEqDiff, Nat.reduceLT, ↓reduceIte, List.length_cons, List.length_nil, List.set_cons_zero, List.set_cons_succ, Nat.le_refl, Nat.zero_le, Nat.zero_sub, Nat.sub_zero, List.nil_append, List.cons_append, Option.toList_some, Option.toList_none, eq_self, nI_1]
      refine ih (k + 1) M1 (by omega) (h1.to (rPt_step (s := s) (b := 0) (c := k) (fun j => ?_) (fun j i hi => ?_)))
      · simp only [Nat.zero_add, up2_at, e]
        by_cases a : j = 15
        · subst a; simp [hx]
        · simp [a, rZ1]
      · rw [up2_off (by omega)]
    refine XZ.runH 60 [37, 89] ?_
    by_cases c1 : s.2 7 k < 0
    · simp only [n109, t109, ↓xh, ↓xst, ↓xrunE, ↓rG, rL, rSt, updA, List.elem_nil, List.elem_cons, Nat.reduceBEq, Bool.false_eq_true, if_false, if_true, true_and, and_true, true_or, or_true, not_false_eq_true, Nat.reduceAdd, Nat.reduceSub, Nat.reduceLeDiff, Nat.reduceEqDiff, Nat.reduceLT, ↓reduceIte, List.length_cons, List.length_nil, List.set_cons_zero, List.set_cons_succ, Nat.le_refl, Nat.zero_le, Nat.zero_sub, Nat.sub_zero, List.nil_append, List.cons_append, Option.toList_some, Option.toList_none, eq_self, ↓rO1 h.1, ↓rB h.1, g, ik, e, lT c1, xn2a, xbj hb]
      exact rest 0 (by simp [rZ1, c1]) _ (h.arr 15 _ _ (by decide) (by decide))
    · by_cases c2 : s.2 11 k = 0
      · simp only [n109, t109, ↓xh, ↓xst, ↓xrunE, ↓rG, rL, rSt, updA, List.elem_nil, List.elem_cons, Nat.reduceBEq, Bool.false_eq_true, if_false, if_true, true_and, and_true, true_or, or_true, not_false_eq_true, Nat.reduceAdd, Nat.reduceSub, Nat.reduceLeDiff, Nat.reduceEqDiff, Nat.reduceLT, ↓reduceIte, List.length_cons, List.length_nil, List.set_cons_zero, List.set_cons_succ, Nat.le_refl, Nat.zero_le, Nat.zero_sub, Nat.sub_zero, List.nil_append, List.cons_append, Option.toList_some, Option.toList_none, eq_self, ↓rO1 h.1, ↓rB h.1, g, ik, e, lF c1, c2, xn2a, xbj hb]
        exact rest 0 (by simp [rZ1, c2]) _ (h.arr 15 _ _ (by decide) (by decide))
      · simp only [n109, t109, ↓xh, ↓xst, ↓xrunE, ↓rG, rL, rSt, updA, List.elem_nil, List.elem_cons, Nat.reduceBEq, Bool.false_eq_true, if_false, if_true, true_and, and_true, true_or, or_true, not_false_eq_true, Nat.reduceAdd, Nat.reduceSub, Nat.reduceLeDiff, Nat.reduceEqDiff, Nat.reduceLT, ↓reduceIte, List.length_cons, List.length_nil, List.set_cons_zero, List.set_cons_succ, Nat.le_refl, Nat.zero_le, Nat.zero_sub, Nat.sub_zero, List.nil_append, List.cons_append, Option.toList_some, Option.toList_none, eq_self, ↓rO1 h.1, ↓rB h.1, g, ik, e, lF c1, c2, xn2b, xbj hb]
        exact rest 1 (by simp [rZ1, c1, c2]) _ (h.arr 15 _ _ (by decide) (by decide))
set_option maxRecDepth 100000 in
set_option maxHeartbeats 4000000 in
theorem rlb109 {E : xE} {M0 : xM} {m nx : Nat} {s : rS} {Q : Option Value → xM → Nat → Prop} (hb : xb E ≤ m) (hz : ∀ k, k < 48 → 0 < s.2 7 k → ∃ r, r < 6 ∧ s.2 8 k = nI r) (hq : ∀ M', rR M0 M' m (rPt (rZ2 s) s 0 48) → Q none M' nx) : ∀ l k M, k + l = 48 → rR M0 M m (rPt (rZ2 s) s 0 k) →
    XZ E 109 (xZ E 109 Q) 45 [some (.ref m), some (.int (nI k))] [] M nx 0 0 := by
  intro l
  induction l with
  | zero =>
    intro k M hk h
    obtain rfl : k = 48 := by omega
    refine XZ.runH 60 [45] ?_
    simp only [n109, t109, ↓xh, ↓xst, ↓xrunE, ↓rG, rL, rSt, updA, List.elem_nil, List.elem_cons, Nat.reduceBEq, Bool.false_eq_true, if_false, if_true, true_and, and_true, true_or, or_true, not_false_eq_true, Nat.reduceAdd, Nat.reduceSub, Nat.reduceLeDiff, Nat.reduceEqDiff, Nat.reduceLT, ↓reduceIte, List.length_cons, List.length_nil, List.set_cons_zero, List.set_cons_succ, Nat.le_refl, Nat.zero_le, Nat.zero_sub, Nat.sub_zero, List.nil_append, List.cons_append, Option.toList_some, Option.toList_none, eq_self, show (48 : Int32) ≤ nI 48 by decide]
    exact hq M h
  | succ l ih =>
    intro k M hk h
    have g : ¬ (48 : Int32) ≤ nI k := nI_ge (show k < 48 by omega) (by decide)
    have ik := nIx (show k < 48 by omega)
    have e := fun j => rPt_at (rZ2 s) s 0 k j
    simp only [Nat.zero_add] at e
    have e15 : (rPt (rZ2 s) s 0 k).2 15 = s.2 15 := by funext i; simp [rPt, rZ2]
    have skip : rZ2 s 11 k = s.2 11 k → XZ E 109 (xZ E 109 Q) 89 [some (.ref m), some (.int (nI k))] [] M nx 0 0 := by
      intro z
      refine XZ.runH 60 [45] ?_
      simp only [n109, t109, ↓xh, ↓xst, ↓xrunE, ↓rG, rL, rSt, updA, List.elem_nil, List.elem_cons, Nat.reduceBEq, Bool.false_eq_true, if_false, if_true, true_and, and_true, true_or, or_true, not_false_eq_true, Nat.reduceAdd, Nat.reduceSub, Nat.reduceLeDiff, Nat.reduceEqDiff, Nat.reduceLT, ↓reduceIte, List.length_cons, List.length_nil, List.set_cons_zero, List.set_cons_succ, Nat.le_refl, Nat.zero_le, Nat.zero_sub, Nat.sub_zero, List.nil_append, List.cons_append, Option.toList_some, Option.toList_none, eq_self, nI_1]
      refine ih (k + 1) M (by omega) (h.to (rPt_step (s := s) (b := 0) (c := k) (fun j => ?_) (fun j i hi => rfl)))
      simp only [Nat.zero_add]
      rw [if_neg (by omega)]
      by_cases a : j = 11
      · subst a; exact z.symm
      · simp [a, rZ2]
    refine XZ.runH 60 [37, 89] ?_
    by_cases c1 : 0 < s.2 7 k
    · obtain ⟨r, hr, er⟩ := hz k (by omega) c1
      have i2 := nIx (show 8 * r + k % 8 < 48 by omega)
      by_cases c2 : s.2 15 (8 * r + k % 8) = 0
      · simp only [n109, t109, ↓xh, ↓xst, ↓xrunE, ↓rG, rL, rSt, updA, List.elem_nil, List.elem_cons, Nat.reduceBEq, Bool.false_eq_true, if_false, if_true, true_and, and_true, true_or, or_true, not_false_eq_true, Nat.reduceAdd, Nat.reduceSub, Nat.reduceLeDiff, Nat.reduceEqDiff, Nat.reduceLT, ↓reduceIte, List.length_cons, List.length_nil, List.set_cons_zero, List.set_cons_succ, Nat.le_refl, Nat.zero_le, Nat.zero_sub, Nat.sub_zero, List.nil_append, List.cons_append, Option.toList_some, Option.toList_none, eq_self, ↓rO1 h.1, ↓rB h.1, g, ik, e, e15, lT c1, er, nIm8, nI_mod8 k (by omega), nI_add, i2, c2, show ¬ (8 : Int32) = 0 by decide]
        exact skip (by simp [rZ2, er, nI_clamp (show r < 2 ^ 31 by omega), c2])
      · simp only [n109, t109, ↓xh, ↓xst, ↓xrunE, ↓rG, rL, rSt, updA, List.elem_nil, List.elem_cons, Nat.reduceBEq, Bool.false_eq_true, if_false, if_true, true_and, and_true, true_or, or_true, not_false_eq_true, Nat.reduceAdd, Nat.reduceSub, Nat.reduceLeDiff, Nat.reduceEqDiff, Nat.reduceLT, ↓reduceIte, List.length_cons, List.length_nil, List.set_cons_zero, List.set_cons_succ, Nat.le_refl, Nat.zero_le, Nat.zero_sub, Nat.sub_zero, List.nil_append, List.cons_append, Option.toList_some, Option.toList_none, eq_self, ↓rO1 h.1, ↓rB h.1, g, ik, e, e15, lT c1, er, nIm8, nI_mod8 k (by omega), nI_add, i2, c2, show ¬ (8 : Int32) = 0 by decide, xn2b, xbj hb]
        refine XZ.abs (h.arr 11 _ _ (by decide) (by decide)) (fun M1 h1 => ?_)
        refine XZ.runH 60 [45] ?_
        simp only [n109, t109, ↓xh, ↓xst, ↓xrunE, ↓rG, rL, rSt, updA, List.elem_nil, List.elem_cons, Nat.reduceBEq, Bool.false_eq_true, if_false, if_true, true_and, and_true, true_or, or_true, not_false_eq_true, Nat.reduceAdd, Nat.reduceSub, Nat.reduceLeDiff, Nat.reduceEqDiff, Nat.reduceLT, ↓reduceIte, List.length_cons, List.length_nil, List.set_cons_zero, List.set_cons_succ, Nat.le_refl, Nat.zero_le, Nat.zero_sub, Nat.sub_zero, List.nil_append, List.cons_append, Option.toList_some, Option.toList_none, eq_self, nI_1]
        refine ih (k + 1) M1 (by omega) (h1.to (rPt_step (s := s) (b := 0) (c := k) (fun j => ?_) (fun j i hi => ?_)))
        · simp only [Nat.zero_add, up2_at, e]
          by_cases a : j = 11
          · subst a; simp [rZ2, c1, er, nI_clamp (show r < 2 ^ 31 by omega), c2]
          · simp [a, rZ2]
        · rw [up2_off (by omega)]
    · simp only [n109, t109, ↓xh, ↓xst, ↓xrunE, ↓rG, rL, rSt, updA, List.elem_nil, List.elem_cons, Nat.reduceBEq, Bool.false_eq_true, if_false, if_true, true_and, and_true, true_or, or_true, not_false_eq_true, Nat.reduceAdd, Nat.reduceSub, Nat.reduceLeDiff, Nat.reduceEqDiff, Nat.reduceLT, ↓reduceIte, List.length_cons, List.length_nil, List.set_cons_zero, List.set_cons_succ, Nat.le_refl, Nat.zero_le, Nat.zero_sub, Nat.sub_zero, List.nil_append, List.cons_append, Option.toList_some, Option.toList_none, eq_self, ↓rO1 h.1, ↓rB h.1, g, ik, e, lF c1]
      exact skip (by simp [rZ2, c1])
def rZones (s : rS) : rS := rPt (rZ2 (rPt (rZ1 s) s 0 48)) (rPt (rZ1 s) s 0 48) 0 48
set_option maxRecDepth 100000 in
set_option maxHeartbeats 4000000 in
theorem rc109 {E : xE} {M0 M : xM} {m nx : Nat} {s : rS} {Q : Option Value → xM → Nat → Prop} (hb : xb E ≤ m) (h : rR M0 M m s) (hz : ∀ k, k < 48 → 0 < s.2 7 k → ∃ r, r < 6 ∧ s.2 8 k = nI r) (hq : ∀ M', rR M0 M' m (rZones s) → Q none M' nx) : XC E 109 [.ref m] M nx Q := by
  refine XC.run 20 [2] ?_
  simp only [n109, t109, ↓xh, ↓xst, ↓xrunE, ↓rG, rL, rSt, updA, List.elem_nil, List.elem_cons, Nat.reduceBEq, Bool.false_eq_true, if_false, if_true, true_and, and_true, true_or, or_true, not_false_eq_true, Nat.reduceAdd, Nat.reduceSub, Nat.reduceLeDiff, Nat.reduceEqDiff, Nat.reduceLT, ↓reduceIte, List.length_cons, List.length_nil, List.set_cons_zero, List.set_cons_succ, Nat.le_refl, Nat.zero_le, Nat.zero_sub, Nat.sub_zero, List.nil_append, List.cons_append, Option.toList_some, Option.toList_none, eq_self]
  refine rla109 hb (fun M1 h1 => ?_) 48 0 M rfl (h.to (rPt_0 _ _ _).symm)
  refine XZ.runH 20 [45] ?_
  simp only [n109, t109, ↓xh, ↓xst, ↓xrunE, ↓rG, rL, rSt, updA, List.elem_nil, List.elem_cons, Nat.reduceBEq, Bool.false_eq_true, if_false, if_true, true_and, and_true, true_or, or_true, not_false_eq_true, Nat.reduceAdd, Nat.reduceSub, Nat.reduceLeDiff, Nat.reduceEqDiff, Nat.reduceLT, ↓reduceIte, List.length_cons, List.length_nil, List.set_cons_zero, List.set_cons_succ, Nat.le_refl, Nat.zero_le, Nat.zero_sub, Nat.sub_zero, List.nil_append, List.cons_append, Option.toList_some, Option.toList_none, eq_self]
  have z7 : (rPt (rZ1 s) s 0 48).2 7 = s.2 7 := by funext i; simp [rPt, rZ1]
  have z8 : (rPt (rZ1 s) s 0 48).2 8 = s.2 8 := by funext i; simp [rPt, rZ1]
  exact rlb109 hb (by rw [z7, z8]; exact hz) hq 48 0 M1 rfl (h1.to (rPt_0 _ _ _).symm)
/-- the entry of a command on a list -/
def rEnt (s : rS) (i : Nat) (x y : Int32) : Nat → Nat → Option Nat
  | 0, _ => none
  | l + 1, e => if s.2 21 (8 * i + e) = x ∧ s.2 22 (8 * i + e) = y then some e else rEnt s i x y l (e + 1)
set_option maxRecDepth 100000 in
set_option maxHeartbeats 4000000 in
theorem rl123 {E : xE} {M : xM} {m nx i L : Nat} {x y : Int32} {s : rS} {Q : Option Value → xM → Nat → Prop} (h : rRep M m s) (hi : i < 16) (hL : L ≤ 8) (hs : s.2 20 i = nI L) : ∀ l e, e + l = L → Q (some (.int ((rEnt s i x y l e).elim (-1) nI))) M nx →
    XZ E 123 (xZ E 123 Q) 3 [some (.ref m), some (.int (nI i)), some (.int x), some (.int y), some (.int (nI e))] [] M nx 0 0 := by
  intro l
  induction l with
  | zero =>
    intro e he hq
    obtain rfl : e = L := by omega
    refine XZ.runH 60 [3] ?_
    simp only [n123, t123, ↓xh, ↓xst, ↓xrunE, ↓rG, rL, rSt, updA, List.elem_nil, List.elem_cons, Nat.reduceBEq, Bool.false_eq_true, if_false, if_true, true_and, and_true, true_or, or_true, not_false_eq_true, Nat.reduceAdd, Nat.reduceSub, Nat.reduceLeDiff, Nat.reduceEqDiff, Nat.reduceLT, ↓reduceIte, List.length_cons, List.length_nil, List.set_cons_zero, List.set_cons_succ, Nat.le_refl, Nat.zero_le, Nat.zero_sub, Nat.sub_zero, List.nil_append, List.cons_append, Option.toList_some, Option.toList_none, eq_self, ↓rO1 h, ↓rB h, nIx hi, hs, nI_le (Nat.le_refl e) (show e < 2 ^ 31 by omega)]
    exact hq
  | succ l ih =>
    intro e he hq
    have g := nI_ge (show e < L by omega) (show L < 2 ^ 31 by omega)
    have ie := nIx (show 8 * i + e < 128 by omega)
    refine XZ.runH 60 [3] ?_
    rw [rEnt] at hq
    by_cases c1 : s.2 21 (8 * i + e) = x
    · by_cases c2 : s.2 22 (8 * i + e) = y
      · simp only [n123, t123, ↓xh, ↓xst, ↓xrunE, ↓rG, rL, rSt, updA, List.elem_nil, List.elem_cons, Nat.reduceBEq, Bool.false_eq_true, if_false, if_true, true_and, and_true, true_or, or_true, not_false_eq_true, Nat.reduceAdd, Nat.reduceSub, Nat.reduceLeDiff, Nat.reduceEqDiff, Nat.reduceLT, ↓reduceIte, List.length_cons, List.length_nil, List.set_cons_zero, List.set_cons_succ, Nat.le_refl, Nat.zero_le, Nat.zero_sub, Nat.sub_zero, List.nil_append, List.cons_append, Option.toList_some, Option.toList_none, eq_self, ↓rO1 h, ↓rB h, nIx hi, hs, g, nIm8, nI_add, ie, c1, c2]
        rw [if_pos ⟨c1, c2⟩] at hq
        exact hq
      · simp only [n123, t123, ↓xh, ↓xst, ↓xrunE, ↓rG, rL, rSt, updA, List.elem_nil, List.elem_cons, Nat.reduceBEq, Bool.false_eq_true, if_false, if_true, true_and, and_true, true_or, or_true, not_false_eq_true, Nat.reduceAdd, Nat.reduceSub, Nat.reduceLeDiff, Nat.reduceEqDiff, Nat.reduceLT, ↓reduceIte, List.length_cons, List.length_nil, List.set_cons_zero, List.set_cons_succ, Nat.le_refl, Nat.zero_le, Nat.zero_sub, Nat.sub_zero, List.nil_append, List.cons_append, Option.toList_some, Option.toList_none, eq_self, ↓rO1 h, ↓rB h, nIx hi, hs, g, nIm8, nI_add, ie, c1, c2, nI_1]
        rw [if_neg (by simp [c2])] at hq
        exact ih (e + 1) (by omega) hq
    · simp only [n123, t123, ↓xh, ↓xst, ↓xrunE, ↓rG, rL, rSt, updA, List.elem_nil, List.elem_cons, Nat.reduceBEq, Bool.false_eq_true, if_false, if_true, true_and, and_true, true_or, or_true, not_false_eq_true, Nat.reduceAdd, Nat.reduceSub, Nat.reduceLeDiff, Nat.reduceEqDiff, Nat.reduceLT, ↓reduceIte, List.length_cons, List.length_nil, List.set_cons_zero, List.set_cons_succ, Nat.le_refl, Nat.zero_le, Nat.zero_sub, Nat.sub_zero, List.nil_append, List.cons_append, Option.toList_some, Option.toList_none, eq_self, ↓rO1 h, ↓rB h, nIx hi, hs, g, nIm8, nI_add, ie, c1, nI_1]
      rw [if_neg (by simp [c1])] at hq
      exact ih (e + 1) (by omega) hq
set_option maxRecDepth 100000 in
set_option maxHeartbeats 4000000 in
theorem rc123 {E : xE} {M : xM} {m nx i L : Nat} {x y : Int32} {s : rS} {Q : Option Value → xM → Nat → Prop} (h : rRep M m s) (hi : i < 16) (hL : L ≤ 8) (hs : s.2 20 i = nI L) (hq : Q (some (.int ((rEnt s i x y L 0).elim (-1) nI))) M nx) : XC E 123 [.ref m, .int (nI i), .int x, .int y] M nx Q := by
  refine XC.run 20 [3] ?_
  simp only [n123, t123, ↓xh, ↓xst, ↓xrunE, ↓rG, rL, rSt, updA, List.elem_nil, List.elem_cons, Nat.reduceBEq, Bool.false_eq_true, if_false, if_true, true_and, and_true, true_or, or_true, not_false_eq_true, Nat.reduceAdd, Nat.reduceSub, Nat.reduceLeDiff, Nat.reduceEqDiff, Nat.reduceLT, ↓reduceIte, List.length_cons, List.length_nil, List.set_cons_zero, List.set_cons_succ, Nat.le_refl, Nat.zero_le, Nat.zero_sub, Nat.sub_zero, List.nil_append, List.cons_append, Option.toList_some, Option.toList_none, eq_self]
  exact rl123 h hi hL hs L 0 (by omega) hq
/-- an entry struck off a list of L + 1 -/
def rStk (s : rS) (i e L : Nat) : rS := (s.1, up2 (up2 (up2 (up2 (up2 s.2 20 i (nI L)) 21 (8 * i + e) (s.2 21 (8 * i + L))) 22 (8 * i + e) (s.2 22 (8 * i + L))) 23 (8 * i + e) (s.2 23 (8 * i + L))) 24 (8 * i + e) (s.2 24 (8 * i + L)))
set_option maxRecDepth 100000 in
set_option maxHeartbeats 4000000 in
theorem rc110 {E : xE} {M0 M : xM} {m nx i e L : Nat} {s : rS} {Q : Option Value → xM → Nat → Prop} (hb : xb E ≤ m) (h : rR M0 M m s) (hi : i < 16) (hL : L < 8) (he : e < 8) (hs : s.2 20 i = nI (L + 1)) (hq : ∀ M', rR M0 M' m (rStk s i e L) → Q none M' nx) : XC E 110 [.ref m, .int (nI i), .int (nI e)] M nx Q := by
  have ii := nIx hi
  have ie := nIx (show 8 * i + e < 128 by omega)
  have il := nIx (show 8 * i + L < 128 by omega)
  refine XC.run 60 [10, 39, 56, 73, 90] ?_
  simp only [n110, t110, ↓xh, ↓xst, ↓xrunE, ↓rG, rL, rSt, updA, List.elem_nil, List.elem_cons, Nat.reduceBEq, Bool.false_eq_true, if_false, if_true, true_and, and_true, true_or, or_true, not_false_eq_true, Nat.reduceAdd, Nat.reduceSub, Nat.reduceLeDiff, Nat.reduceEqDiff, Nat.reduceLT, ↓reduceIte, List.length_cons, List.length_nil, List.set_cons_zero, List.set_cons_succ, Nat.le_refl, Nat.zero_le, Nat.zero_sub, Nat.sub_zero, List.nil_append, List.cons_append, Option.toList_some, Option.toList_none, eq_self, ↓rO1 h.1, ↓rB h.1, ii, hs, nI_pred, xn0, xbj hb]
  refine XZ.abs (h.arr 20 _ _ (by decide) (by decide)) (fun M1 h1 => ?_)
  refine XZ.runH 60 [10, 39, 56, 73, 90] ?_
  simp only [n110, t110, ↓xh, ↓xst, ↓xrunE, ↓rG, rL, rSt, updA, List.elem_nil, List.elem_cons, Nat.reduceBEq, Bool.false_eq_true, if_false, if_true, true_and, and_true, true_or, or_true, not_false_eq_true, Nat.reduceAdd, Nat.reduceSub, Nat.reduceLeDiff, Nat.reduceEqDiff, Nat.reduceLT, ↓reduceIte, List.length_cons, List.length_nil, List.set_cons_zero, List.set_cons_succ, Nat.le_refl, Nat.zero_le, Nat.zero_sub, Nat.sub_zero, List.nil_append, List.cons_append, Option.toList_some, Option.toList_none, eq_self, ↓rO1 h1.1, ↓rB h1.1, ii, up2A, nIm8, nI_add, ie, il, xn0, xbj hb]
  refine XZ.abs (h1.arr 21 _ _ (by decide) (by decide)) (fun M2 h2 => ?_)
  refine XZ.runH 60 [10, 39, 56, 73, 90] ?_
  simp only [n110, t110, ↓xh, ↓xst, ↓xrunE, ↓rG, rL, rSt, updA, List.elem_nil, List.elem_cons, Nat.reduceBEq, Bool.false_eq_true, if_false, if_true, true_and, and_true, true_or, or_true, not_false_eq_true, Nat.reduceAdd, Nat.reduceSub, Nat.reduceLeDiff, Nat.reduceEqDiff, Nat.reduceLT, ↓reduceIte, List.length_cons, List.length_nil, List.set_cons_zero, List.set_cons_succ, Nat.le_refl, Nat.zero_le, Nat.zero_sub, Nat.sub_zero, List.nil_append, List.cons_append, Option.toList_some, Option.toList_none, eq_self, ↓rO1 h2.1, ↓rB h2.1, up2A, nIm8, nI_add, ie, il, xn0, xbj hb]
  refine XZ.abs (h2.arr 22 _ _ (by decide) (by decide)) (fun M3 h3 => ?_)
  refine XZ.runH 60 [10, 39, 56, 73, 90] ?_
  simp only [n110, t110, ↓xh, ↓xst, ↓xrunE, ↓rG, rL, rSt, updA, List.elem_nil, List.elem_cons, Nat.reduceBEq, Bool.false_eq_true, if_false, if_true, true_and, and_true, true_or, or_true, not_false_eq_true, Nat.reduceAdd, Nat.reduceSub, Nat.reduceLeDiff, Nat.reduceEqDiff, Nat.reduceLT, ↓reduceIte, List.length_cons, List.length_nil, List.set_cons_zero, List.set_cons_succ, Nat.le_refl, Nat.zero_le, Nat.zero_sub, Nat.sub_zero, List.nil_append, List.cons_append, Option.toList_some, Option.toList_none, eq_self, ↓rO1 h3.1, ↓rB h3.1, up2A, nIm8, nI_add, ie, il, xn0, xbj hb]
  refine XZ.abs (h3.arr 23 _ _ (by decide) (by decide)) (fun M4 h4 => ?_)
  refine XZ.runH 60 [10, 39, 56, 73, 90] ?_
  simp only [n110, t110, ↓xh, ↓xst, ↓xrunE, ↓rG, rL, rSt, updA, List.elem_nil, List.elem_cons, Nat.reduceBEq, Bool.false_eq_true, if_false, if_true, true_and, and_true, true_or, or_true, not_false_eq_true, Nat.reduceAdd, Nat.reduceSub, Nat.reduceLeDiff, Nat.reduceEqDiff, Nat.reduceLT, ↓reduceIte, List.length_cons, List.length_nil, List.set_cons_zero, List.set_cons_succ, Nat.le_refl, Nat.zero_le, Nat.zero_sub, Nat.sub_zero, List.nil_append, List.cons_append, Option.toList_some, Option.toList_none, eq_self, ↓rO1 h4.1, ↓rB h4.1, up2A, nIm8, nI_add, ie, il, xn0, xbj hb]
  refine XZ.abs (h4.arr 24 _ _ (by decide) (by decide)) (fun M5 h5 => ?_)
  refine XZ.runH 60 [] ?_
  simp only [n110, t110, ↓xh, ↓xst, ↓xrunE, ↓rG, rL, rSt, updA, List.elem_nil, List.elem_cons, Nat.reduceBEq, Bool.false_eq_true, if_false, if_true, true_and, and_true, true_or, or_true, not_false_eq_true, Nat.reduceAdd, Nat.reduceSub, Nat.reduceLeDiff, Nat.reduceEqDiff, Nat.reduceLT, ↓reduceIte, List.length_cons, List.length_nil, List.set_cons_zero, List.set_cons_succ, Nat.le_refl, Nat.zero_le, Nat.zero_sub, Nat.sub_zero, List.nil_append, List.cons_append, Option.toList_some, Option.toList_none, eq_self]
  exact hq M5 h5
