theorem rR.to {M0 M : xM} {m : Nat} {s s' : rS} (h : rR M0 M m s) (e : s = s') : rR M0 M m s' := e ▸ h
theorem xn0 (x : Int32) : xnar 0 x = x := rfl
theorem xn2a : xnar 2 0 = 0 := rfl
theorem xn2b : xnar 2 1 = 1 := rfl
theorem xbj {E : xE} {m : Nat} (hb : xb E ≤ m) : ∀ j, (xb E ≤ m + j) = True := fun j => eq_true (by omega)
theorem up2_off {a : Nat → Nat → Int32} {j i j' k : Nat} {x : Int32} (h : k ≠ i) : up2 a j i x j' k = a j' k := by
  unfold up2
  by_cases e : j' = j
  · subst e
    simp [h]
  · simp [e]
theorem up2_at (a : Nat → Nat → Int32) (j i j' : Nat) (x : Int32) : up2 a j i x j' i = if j' = j then x else a j' i := by
  unfold up2
  by_cases e : j' = j
  · subst e
    simp
  · simp [e]
/-- the places from b on, c of them, hold what F says -/
def rPt (F : Nat → Nat → Int32) (s : rS) (b c : Nat) : rS := (s.1, fun j k => if b ≤ k ∧ k < b + c then F j k else s.2 j k)
theorem rPt_0 (F : Nat → Nat → Int32) (s : rS) (b : Nat) : rPt F s b 0 = s := by
  refine Prod.ext rfl ?_
  funext j k
  simp only [rPt]
  rw [if_neg (by omega)]
theorem rPt_at (F : Nat → Nat → Int32) (s : rS) (b c j : Nat) : (rPt F s b c).2 j (b + c) = s.2 j (b + c) := by
  simp only [rPt]
  rw [if_neg (by omega)]
theorem rPt_step {F : Nat → Nat → Int32} {s : rS} {b c : Nat} {a : Nat → Nat → Int32} (h1 : ∀ j, a j (b + c) = F j (b + c)) (h2 : ∀ j k, k ≠ b + c → a j k = (rPt F s b c).2 j k) : ((rPt F s b c).1, a) = rPt F s b (c + 1) := by
  refine Prod.ext rfl ?_
  funext j k
  by_cases e : k = b + c
  · subst e
    simp only [rPt]
    rw [h1, if_pos (by omega)]
  · show a j k = _
    rw [h2 j k e]
    simp only [rPt]
    by_cases d : b ≤ k ∧ k < b + c
    · rw [if_pos d, if_pos (by omega)]
    · rw [if_neg d, if_neg (by omega)]
/-- ageing -/
def rAgeF (s : rS) (j k : Nat) : Int32 := if j = 7 then (if 0 < s.2 7 k ∧ s.2 10 k = 2 then -1 else s.2 7 k) else if j = 10 then (if 0 < s.2 7 k ∧ ¬ s.2 10 k = 2 then s.2 10 k + 1 else s.2 10 k) else s.2 j k
set_option maxRecDepth 100000 in
set_option maxHeartbeats 4000000 in
theorem rl107 {E : xE} {M0 : xM} {m nx : Nat} {s : rS} {Q : Option Value → xM → Nat → Prop} (hb : xb E ≤ m) (hq : ∀ M', rR M0 M' m (rPt (rAgeF s) s 0 48) → Q none M' nx) : ∀ k c M, c + k = 48 → rR M0 M m (rPt (rAgeF s) s 0 c) →
    XZ E 107 (xZ E 107 Q) 2 [some (.ref m), some (.int (nI c))] [] M nx 0 0 := by
  intro k
  induction k with
  | zero =>
    intro c M hc h
    obtain rfl : c = 48 := by omega
    refine XZ.runH 60 [2] ?_
    simp only [n107, t107, ↓xh, ↓xst, ↓xrunE, ↓rG, rL, rSt, updA, List.elem_nil, List.elem_cons, Nat.reduceBEq, Bool.false_eq_true, if_false, if_true, true_and, and_true, true_or, or_true, not_false_eq_true, Nat.reduceAdd, Nat.reduceSub, Nat.reduceLeDiff, Nat.reduceEqDiff, Nat.reduceLT, ↓reduceIte, List.length_cons, List.length_nil, List.set_cons_zero, List.set_cons_succ, Nat.le_refl, Nat.zero_le, Nat.zero_sub, Nat.sub_zero, List.nil_append, List.cons_append, Option.toList_some, Option.toList_none, eq_self, show (48 : Int32) ≤ nI 48 by decide]
    exact hq M h
  | succ k ih =>
    intro c M hc h
    have g : ¬ (48 : Int32) ≤ nI c := nI_ge (show c < 48 by omega) (by decide)
    have e := fun j => rPt_at (rAgeF s) s 0 c j
    simp only [Nat.zero_add] at e
    refine XZ.runH 60 [2] ?_
    simp only [n107, t107, ↓xh, ↓xst, ↓xrunE, ↓rG, rL, rSt, updA, List.elem_nil, List.elem_cons, Nat.reduceBEq, Bool.false_eq_true, if_false, if_true, true_and, and_true, true_or, or_true, not_false_eq_true, Nat.reduceAdd, Nat.reduceSub, Nat.reduceLeDiff, Nat.reduceEqDiff, Nat.reduceLT, ↓reduceIte, List.length_cons, List.length_nil, List.set_cons_zero, List.set_cons_succ, Nat.le_refl, Nat.zero_le, Nat.zero_sub, Nat.sub_zero, List.nil_append, List.cons_append, Option.toList_some, Option.toList_none, eq_self, ↓rO1 h.1, ↓rB h.1, g, nIx (show c < 48 by omega), e, nI_1, xn0, xbj hb]
    by_cases d : 0 < s.2 7 c
    · by_cases f : s.2 10 c = 2
      · simp only [lT d, f, if_true, if_false]
        refine ih (c + 1) _ (by omega) ((h.arr 7 c (-1) (by decide) (by decide)).to (rPt_step (fun j => ?_) (fun j k hk => ?_)))
        · simp only [Nat.zero_add, up2_at, e, rAgeF, d, f]
          by_cases e7 : j = 7 <;> by_cases e10 : j = 10 <;> simp [e7, e10] <;> omega
        · rw [up2_off (by omega)]
      · simp only [lT d, f, if_true, if_false]
        refine ih (c + 1) _ (by omega) ((h.arr 10 c (s.2 10 c + 1) (by decide) (by decide)).to (rPt_step (fun j => ?_) (fun j k hk => ?_)))
        · simp only [Nat.zero_add, up2_at, e, rAgeF, d, f]
          by_cases e7 : j = 7 <;> by_cases e10 : j = 10 <;> simp [e7, e10] <;> omega
        · rw [up2_off (by omega)]
    · simp only [lF d, if_true, if_false]
      refine ih (c + 1) _ (by omega) (h.to (rPt_step (fun j => ?_) (fun j k hk => rfl)))
      simp only [Nat.zero_add, e, rAgeF, d]
      by_cases e7 : j = 7 <;> by_cases e10 : j = 10 <;> simp [e7, e10] <;> omega
set_option maxRecDepth 100000 in
set_option maxHeartbeats 4000000 in
theorem rc107 {E : xE} {M0 M : xM} {m nx : Nat} {s : rS} {Q : Option Value → xM → Nat → Prop} (hb : xb E ≤ m) (h : rR M0 M m s) (hq : ∀ M', rR M0 M' m (rPt (rAgeF s) s 0 48) → Q none M' nx) : XC E 107 [.ref m] M nx Q := by
  refine XC.run 20 [2] ?_
  simp only [n107, t107, ↓xh, ↓xst, ↓xrunE, ↓rG, rL, rSt, updA, List.elem_nil, List.elem_cons, Nat.reduceBEq, Bool.false_eq_true, if_false, if_true, true_and, and_true, true_or, or_true, not_false_eq_true, Nat.reduceAdd, Nat.reduceSub, Nat.reduceLeDiff, Nat.reduceEqDiff, Nat.reduceLT, ↓reduceIte, List.length_cons, List.length_nil, List.set_cons_zero, List.set_cons_succ, Nat.le_refl, Nat.zero_le, Nat.zero_sub, Nat.sub_zero, List.nil_append, List.cons_append, Option.toList_some, Option.toList_none, eq_self]
  exact rl107 hb hq 48 0 M rfl (h.to (rPt_0 _ _ _).symm)
/-- fresh: the entries of router r -/
def rOwn (s : rS) (r n : Nat) : Bool := decide (¬ s.2 6 r = 0) && rHas s r n
def rFrF (s : rS) (r j k : Nat) : Int32 := if j = 7 then (if rOwn s r (k - 8 * r) then 0 else -1) else if j = 8 then -1 else if j = 9 then nI (k - 8 * r) else if j = 10 then 0 else if j = 11 then (if rOwn s r (k - 8 * r) then 1 else 0) else s.2 j k
set_option maxRecDepth 100000 in
set_option maxHeartbeats 4000000 in
theorem rl102 {E : xE} {M0 : xM} {m nx r : Nat} {s : rS} {Q : Option Value → xM → Nat → Prop} (hb : xb E ≤ m) (hr : r < 6) (hq : ∀ M', rR M0 M' m (rPt (rFrF s r) s (8 * r) 8) → Q none M' nx) : ∀ k c M v3 v4, c + k = 8 → rR M0 M m (rPt (rFrF s r) s (8 * r) c) →
    XZ E 102 (xZ E 102 Q) 2 [some (.ref m), some (.int (nI r)), some (.int (nI c)), v3, v4] [] M nx 0 0 := by
  intro k
  induction k with
  | zero =>
    intro c M v3 v4 hc h
    obtain rfl : c = 8 := by omega
    refine XZ.runH 60 [2] ?_
    simp only [n102, t102, ↓xh, ↓xst, ↓xrunE, ↓rG, rL, rSt, updA, List.elem_nil, List.elem_cons, Nat.reduceBEq, Bool.false_eq_true, if_false, if_true, true_and, and_true, true_or, or_true, not_false_eq_true, Nat.reduceAdd, Nat.reduceSub, Nat.reduceLeDiff, Nat.reduceEqDiff, Nat.reduceLT, ↓reduceIte, List.length_cons, List.length_nil, List.set_cons_zero, List.set_cons_succ, Nat.le_refl, Nat.zero_le, Nat.zero_sub, Nat.sub_zero, List.nil_append, List.cons_append, Option.toList_some, Option.toList_none, eq_self, show (8 : Int32) ≤ nI 8 by decide]
    exact hq M h
  | succ k ih =>
    intro c M v3 v4 hc h
    have g : ¬ (8 : Int32) ≤ nI c := nI_ge (show c < 8 by omega) (by decide)
    have e := fun j => rPt_at (rFrF s r) s (8 * r) c j
    have e6 : (rPt (rFrF s r) s (8 * r) c).2 6 r = s.2 6 r := by
      simp only [rPt, rFrF]
      by_cases z : 8 * r ≤ r ∧ r < 8 * r + c <;> simp [z]
    have e5 : (rPt (rFrF s r) s (8 * r) c).2 5 r = s.2 5 r := by
      simp only [rPt, rFrF]
      by_cases z : 8 * r ≤ r ∧ r < 8 * r + c <;> simp [z]
    have e56 : rHas (rPt (rFrF s r) s (8 * r) c) r c = rHas s r c := by
      unfold rHas
      rw [e5]
    have fin : ∀ M' b1, (b1 = rOwn s r c) → rR M0 M' m (rPt (rFrF s r) s (8 * r) c) → XZ E 102 (xZ E 102 Q) 40 [some (.ref m), some (.int (nI r)), some (.int (nI c)), some (.int (nI (8 * r + c))), some (.int (if b1 = true then 1 else 0))] [] M' nx 0 0 := by
      intro M1 b1 hb1 h1
      subst hb1
      refine XZ.runH 60 [56, 63, 70, 77, 85] ?_
      by_cases o : rOwn s r c = true
      · simp only [n102, t102, ↓xh, ↓xst, ↓xrunE, ↓rG, rL, rSt, updA, List.elem_nil, List.elem_cons, Nat.reduceBEq, Bool.false_eq_true, if_false, if_true, true_and, and_true, true_or, or_true, not_false_eq_true, Nat.reduceAdd, Nat.reduceSub, Nat.reduceLeDiff, Nat.reduceEqDiff, Nat.reduceLT, ↓reduceIte, List.length_cons, List.length_nil, List.set_cons_zero, List.set_cons_succ, Nat.le_refl, Nat.zero_le, Nat.zero_sub, Nat.sub_zero, List.nil_append, List.cons_append, Option.toList_some, Option.toList_none, eq_self, ↓rO1 h1.1, ↓rB h1.1, o, show ¬ (1 : Int32) = 0 by decide, nIx (show 8 * r + c < 48 by omega), nI_1, xn0, xn2a, xn2b, xbj hb]
        refine XZ.abs (h1.arr 7 _ _ (by decide) (by decide)) (fun M2 h2 => ?_)
        refine XZ.runH 60 [56, 63, 70, 77, 85] ?_
        simp only [n102, t102, ↓xh, ↓xst, ↓xrunE, ↓rG, rL, rSt, updA, List.elem_nil, List.elem_cons, Nat.reduceBEq, Bool.false_eq_true, if_false, if_true, true_and, and_true, true_or, or_true, not_false_eq_true, Nat.reduceAdd, Nat.reduceSub, Nat.reduceLeDiff, Nat.reduceEqDiff, Nat.reduceLT, ↓reduceIte, List.length_cons, List.length_nil, List.set_cons_zero, List.set_cons_succ, Nat.le_refl, Nat.zero_le, Nat.zero_sub, Nat.sub_zero, List.nil_append, List.cons_append, Option.toList_some, Option.toList_none, eq_self, ↓rO1 h2.1, ↓rB h2.1, nIx (show 8 * r + c < 48 by omega), xn0, xbj hb]
        refine XZ.abs (h2.arr 8 _ _ (by decide) (by decide)) (fun M3 h3 => ?_)
        refine XZ.runH 60 [56, 63, 70, 77, 85] ?_
        simp only [n102, t102, ↓xh, ↓xst, ↓xrunE, ↓rG, rL, rSt, updA, List.elem_nil, List.elem_cons, Nat.reduceBEq, Bool.false_eq_true, if_false, if_true, true_and, and_true, true_or, or_true, not_false_eq_true, Nat.reduceAdd, Nat.reduceSub, Nat.reduceLeDiff, Nat.reduceEqDiff, Nat.reduceLT, ↓reduceIte, List.length_cons, List.length_nil, List.set_cons_zero, List.set_cons_succ, Nat.le_refl, Nat.zero_le, Nat.zero_sub, Nat.sub_zero, List.nil_append, List.cons_append, Option.toList_some, Option.toList_none, eq_self, ↓rO1 h3.1, ↓rB h3.1, nIx (show 8 * r + c < 48 by omega), xn0, xbj hb]
        refine XZ.abs (h3.arr 9 _ _ (by decide) (by decide)) (fun M4 h4 => ?_)
        refine XZ.runH 60 [56, 63, 70, 77, 85] ?_
        simp only [n102, t102, ↓xh, ↓xst, ↓xrunE, ↓rG, rL, rSt, updA, List.elem_nil, List.elem_cons, Nat.reduceBEq, Bool.false_eq_true, if_false, if_true, true_and, and_true, true_or, or_true, not_false_eq_true, Nat.reduceAdd, Nat.reduceSub, Nat.reduceLeDiff, Nat.reduceEqDiff, Nat.reduceLT, ↓reduceIte, List.length_cons, List.length_nil, List.set_cons_zero, List.set_cons_succ, Nat.le_refl, Nat.zero_le, Nat.zero_sub, Nat.sub_zero, List.nil_append, List.cons_append, Option.toList_some, Option.toList_none, eq_self, ↓rO1 h4.1, ↓rB h4.1, nIx (show 8 * r + c < 48 by omega), xn0, xbj hb]
        refine XZ.abs (h4.arr 10 _ _ (by decide) (by decide)) (fun M5 h5 => ?_)
        refine XZ.runH 60 [56, 63, 70, 77, 85] ?_
        simp only [n102, t102, ↓xh, ↓xst, ↓xrunE, ↓rG, rL, rSt, updA, List.elem_nil, List.elem_cons, Nat.reduceBEq, Bool.false_eq_true, if_false, if_true, true_and, and_true, true_or, or_true, not_false_eq_true, Nat.reduceAdd, Nat.reduceSub, Nat.reduceLeDiff, Nat.reduceEqDiff, Nat.reduceLT, ↓reduceIte, List.length_cons, List.length_nil, List.set_cons_zero, List.set_cons_succ, Nat.le_refl, Nat.zero_le, Nat.zero_sub, Nat.sub_zero, List.nil_append, List.cons_append, Option.toList_some, Option.toList_none, eq_self, ↓rO1 h5.1, ↓rB h5.1, nIx (show 8 * r + c < 48 by omega), xn2a, xn2b, xbj hb]
        refine XZ.abs (h5.arr 11 _ _ (by decide) (by decide)) (fun M6 h6 => ?_)
        refine XZ.runH 60 [2] ?_
        simp only [n102, t102, ↓xh, ↓xst, ↓xrunE, ↓rG, rL, rSt, updA, List.elem_nil, List.elem_cons, Nat.reduceBEq, Bool.false_eq_true, if_false, if_true, true_and, and_true, true_or, or_true, not_false_eq_true, Nat.reduceAdd, Nat.reduceSub, Nat.reduceLeDiff, Nat.reduceEqDiff, Nat.reduceLT, ↓reduceIte, List.length_cons, List.length_nil, List.set_cons_zero, List.set_cons_succ, Nat.le_refl, Nat.zero_le, Nat.zero_sub, Nat.sub_zero, List.nil_append, List.cons_append, Option.toList_some, Option.toList_none, eq_self, nI_1]
        dsimp only at h6
        refine ih (c + 1) M6 _ _ (by omega) (h6.to (rPt_step (fun j => ?_) (fun j k hk => ?_)))
        · simp only [up2_at, e, rFrF, Nat.add_sub_cancel_left, o, if_true, Bool.false_eq_true, if_false]
          by_cases a7 : j = 7
          · subst a7; simp
          by_cases a8 : j = 8
          · subst a8; simp
          by_cases a9 : j = 9
          · subst a9; simp
          by_cases a10 : j = 10
          · subst a10; simp
          by_cases a11 : j = 11
          · subst a11; simp
          simp [a7, a8, a9, a10, a11]
        · rw [up2_off hk, up2_off hk, up2_off hk, up2_off hk, up2_off hk]
      · simp only [n102, t102, ↓xh, ↓xst, ↓xrunE, ↓rG, rL, rSt, updA, List.elem_nil, List.elem_cons, Nat.reduceBEq, Bool.false_eq_true, if_false, if_true, true_and, and_true, true_or, or_true, not_false_eq_true, Nat.reduceAdd, Nat.reduceSub, Nat.reduceLeDiff, Nat.reduceEqDiff, Nat.reduceLT, ↓reduceIte, List.length_cons, List.length_nil, List.set_cons_zero, List.set_cons_succ, Nat.le_refl, Nat.zero_le, Nat.zero_sub, Nat.sub_zero, List.nil_append, List.cons_append, Option.toList_some, Option.toList_none, eq_self, ↓rO1 h1.1, ↓rB h1.1, o, show ¬ (1 : Int32) = 0 by decide, nIx (show 8 * r + c < 48 by omega), nI_1, xn0, xn2a, xn2b, xbj hb]
        refine XZ.abs (h1.arr 7 _ _ (by decide) (by decide)) (fun M2 h2 => ?_)
        refine XZ.runH 60 [56, 63, 70, 77, 85] ?_
        simp only [n102, t102, ↓xh, ↓xst, ↓xrunE, ↓rG, rL, rSt, updA, List.elem_nil, List.elem_cons, Nat.reduceBEq, Bool.false_eq_true, if_false, if_true, true_and, and_true, true_or, or_true, not_false_eq_true, Nat.reduceAdd, Nat.reduceSub, Nat.reduceLeDiff, Nat.reduceEqDiff, Nat.reduceLT, ↓reduceIte, List.length_cons, List.length_nil, List.set_cons_zero, List.set_cons_succ, Nat.le_refl, Nat.zero_le, Nat.zero_sub, Nat.sub_zero, List.nil_append, List.cons_append, Option.toList_some, Option.toList_none, eq_self, ↓rO1 h2.1, ↓rB h2.1, nIx (show 8 * r + c < 48 by omega), xn0, xbj hb]
        refine XZ.abs (h2.arr 8 _ _ (by decide) (by decide)) (fun M3 h3 => ?_)
        refine XZ.runH 60 [56, 63, 70, 77, 85] ?_
        simp only [n102, t102, ↓xh, ↓xst, ↓xrunE, ↓rG, rL, rSt, updA, List.elem_nil, List.elem_cons, Nat.reduceBEq, Bool.false_eq_true, if_false, if_true, true_and, and_true, true_or, or_true, not_false_eq_true, Nat.reduceAdd, Nat.reduceSub, Nat.reduceLeDiff, Nat.reduceEqDiff, Nat.reduceLT, ↓reduceIte, List.length_cons, List.length_nil, List.set_cons_zero, List.set_cons_succ, Nat.le_refl, Nat.zero_le, Nat.zero_sub, Nat.sub_zero, List.nil_append, List.cons_append, Option.toList_some, Option.toList_none, eq_self, ↓rO1 h3.1, ↓rB h3.1, nIx (show 8 * r + c < 48 by omega), xn0, xbj hb]
        refine XZ.abs (h3.arr 9 _ _ (by decide) (by decide)) (fun M4 h4 => ?_)
        refine XZ.runH 60 [56, 63, 70, 77, 85] ?_
        simp only [n102, t102, ↓xh, ↓xst, ↓xrunE, ↓rG, rL, rSt, updA, List.elem_nil, List.elem_cons, Nat.reduceBEq, Bool.false_eq_true, if_false, if_true, true_and, and_true, true_or, or_true, not_false_eq_true, Nat.reduceAdd, Nat.reduceSub, Nat.reduceLeDiff, Nat.reduceEqDiff, Nat.reduceLT, ↓reduceIte, List.length_cons, List.length_nil, List.set_cons_zero, List.set_cons_succ, Nat.le_refl, Nat.zero_le, Nat.zero_sub, Nat.sub_zero, List.nil_append, List.cons_append, Option.toList_some, Option.toList_none, eq_self, ↓rO1 h4.1, ↓rB h4.1, nIx (show 8 * r + c < 48 by omega), xn0, xbj hb]
        refine XZ.abs (h4.arr 10 _ _ (by decide) (by decide)) (fun M5 h5 => ?_)
        refine XZ.runH 60 [56, 63, 70, 77, 85] ?_
        simp only [n102, t102, ↓xh, ↓xst, ↓xrunE, ↓rG, rL, rSt, updA, List.elem_nil, List.elem_cons, Nat.reduceBEq, Bool.false_eq_true, if_false, if_true, true_and, and_true, true_or, or_true, not_false_eq_true, Nat.reduceAdd, Nat.reduceSub, Nat.reduceLeDiff, Nat.reduceEqDiff, Nat.reduceLT, ↓reduceIte, List.length_cons, List.length_nil, List.set_cons_zero, List.set_cons_succ, Nat.le_refl, Nat.zero_le, Nat.zero_sub, Nat.sub_zero, List.nil_append, List.cons_append, Option.toList_some, Option.toList_none, eq_self, ↓rO1 h5.1, ↓rB h5.1, nIx (show 8 * r + c < 48 by omega), xn2a, xn2b, xbj hb]
        refine XZ.abs (h5.arr 11 _ _ (by decide) (by decide)) (fun M6 h6 => ?_)
        refine XZ.runH 60 [2] ?_
        simp only [n102, t102, ↓xh, ↓xst, ↓xrunE, ↓rG, rL, rSt, updA, List.elem_nil, List.elem_cons, Nat.reduceBEq, Bool.false_eq_true, if_false, if_true, true_and, and_true, true_or, or_true, not_false_eq_true, Nat.reduceAdd, Nat.reduceSub, Nat.reduceLeDiff, Nat.reduceEqDiff, Nat.reduceLT, ↓reduceIte, List.length_cons, List.length_nil, List.set_cons_zero, List.set_cons_succ, Nat.le_refl, Nat.zero_le, Nat.zero_sub, Nat.sub_zero, List.nil_append, List.cons_append, Option.toList_some, Option.toList_none, eq_self, nI_1]
        dsimp only at h6
        refine ih (c + 1) M6 _ _ (by omega) (h6.to (rPt_step (fun j => ?_) (fun j k hk => ?_)))
        · simp only [up2_at, e, rFrF, Nat.add_sub_cancel_left, o, if_true, Bool.false_eq_true, if_false]
          by_cases a7 : j = 7
          · subst a7; simp
          by_cases a8 : j = 8
          · subst a8; simp
          by_cases a9 : j = 9
          · subst a9; simp
          by_cases a10 : j = 10
          · subst a10; simp
          by_cases a11 : j = 11
          · subst a11; simp
          simp [a7, a8, a9, a10, a11]
        · rw [up2_off hk, up2_off hk, up2_off hk, up2_off hk, up2_off hk]
    refine XZ.runH 60 [40] ?_
    simp only [n102, n116, t102, ↓xh, ↓xst, ↓xrunE, ↓rG, rL, rSt, updA, List.elem_nil, List.elem_cons, Nat.reduceBEq, Bool.false_eq_true, if_false, if_true, true_and, and_true, true_or, or_true, not_false_eq_true, Nat.reduceAdd, Nat.reduceSub, Nat.reduceLeDiff, Nat.reduceEqDiff, Nat.reduceLT, ↓reduceIte, List.length_cons, List.length_nil, List.set_cons_zero, List.set_cons_succ, Nat.le_refl, Nat.zero_le, Nat.zero_sub, Nat.sub_zero, List.nil_append, List.cons_append, Option.toList_some, Option.toList_none, eq_self, ↓rO1 h.1, ↓rB h.1, g, nIx hr, nIm8, nI_add, nIx (show 8 * r + c < 48 by omega), e6, nI_1]
    by_cases d : s.2 6 r = 0
    · rw [if_pos d]
      have z := fin M (rOwn s r c) rfl h
      simp only [rOwn, d, not_true_eq_false, decide_false, Bool.false_and, Bool.false_eq_true, if_false] at z
      exact z
    · rw [if_neg d]
      refine rc116 h.1 hr ?_
      rw [e56]
      refine XZ.runH 60 [40] ?_
      have z := fin M (rOwn s r c) rfl h
      simp only [rOwn, d, not_false_eq_true, decide_true, Bool.true_and] at z
      by_cases f : rHas s r c = true
      · rw [if_pos f] at z
        simp only [n102, t102, ↓xh, ↓xst, ↓xrunE, ↓rG, rL, rSt, updA, List.elem_nil, List.elem_cons, Nat.reduceBEq, Bool.false_eq_true, if_false, if_true, true_and, and_true, true_or, or_true, not_false_eq_true, Nat.reduceAdd, Nat.reduceSub, Nat.reduceLeDiff, Nat.reduceEqDiff, Nat.reduceLT, ↓reduceIte, List.length_cons, List.length_nil, List.set_cons_zero, List.set_cons_succ, Nat.le_refl, Nat.zero_le, Nat.zero_sub, Nat.sub_zero, List.nil_append, List.cons_append, Option.toList_some, Option.toList_none, eq_self, f, show ¬ (1 : Int32) = 0 by decide]
        exact z
      · rw [if_neg f] at z
        simp only [n102, t102, ↓xh, ↓xst, ↓xrunE, ↓rG, rL, rSt, updA, List.elem_nil, List.elem_cons, Nat.reduceBEq, Bool.false_eq_true, if_false, if_true, true_and, and_true, true_or, or_true, not_false_eq_true, Nat.reduceAdd, Nat.reduceSub, Nat.reduceLeDiff, Nat.reduceEqDiff, Nat.reduceLT, ↓reduceIte, List.length_cons, List.length_nil, List.set_cons_zero, List.set_cons_succ, Nat.le_refl, Nat.zero_le, Nat.zero_sub, Nat.sub_zero, List.nil_append, List.cons_append, Option.toList_some, Option.toList_none, eq_self, f]
        exact z
set_option maxRecDepth 100000 in
set_option maxHeartbeats 4000000 in
theorem rc102 {E : xE} {M0 M : xM} {m nx r : Nat} {s : rS} {Q : Option Value → xM → Nat → Prop} (hb : xb E ≤ m) (hr : r < 6) (h : rR M0 M m s) (hq : ∀ M', rR M0 M' m (rPt (rFrF s r) s (8 * r) 8) → Q none M' nx) : XC E 102 [.ref m, .int (nI r)] M nx Q := by
  refine XC.run 20 [2] ?_
  simp only [n102, t102, ↓xh, ↓xst, ↓xrunE, ↓rG, rL, rSt, updA, List.elem_nil, List.elem_cons, Nat.reduceBEq, Bool.false_eq_true, if_false, if_true, true_and, and_true, true_or, or_true, not_false_eq_true, Nat.reduceAdd, Nat.reduceSub, Nat.reduceLeDiff, Nat.reduceEqDiff, Nat.reduceLT, ↓reduceIte, List.length_cons, List.length_nil, List.set_cons_zero, List.set_cons_succ, Nat.le_refl, Nat.zero_le, Nat.zero_sub, Nat.sub_zero, List.nil_append, List.cons_append, Option.toList_some, Option.toList_none, eq_self]
  exact rl102 hb hr hq 8 0 M _ _ rfl (h.to (rPt_0 _ _ _).symm)
