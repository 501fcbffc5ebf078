def rLn (s : rS) (n : Nat) : Nat := (s.2 3 n).toNatClampNeg
/-- letters and lengths are in order -/
def rLt (s : rS) : Prop := (∀ n, n < 40 → rLn s n ≤ 32 ∧ s.2 3 n = nI (rLn s n)) ∧ (∀ k, k < 1280 → rCh (s.2 2 k)) ∧ ∀ k, k < 32 → rCh (s.2 1 k)
/-- l letters of the text from k on stand in name n from t on -/
def rStd (s : rS) (n : Nat) : Nat → Nat → Nat → Bool
  | 0, _, _ => true
  | l + 1, k, t => if rSm (s.2 1 k) = rSm (s.2 2 (32 * n + t)) then rStd s n l (k + 1) (t + 1) else false
set_option maxRecDepth 100000 in
set_option maxHeartbeats 4000000 in
theorem rl128 {E : xE} {M : xM} {m nx a d n o : Nat} {s : rS} {Q : Option Value → xM → Nat → Prop} (h : rRep M m s) (hl : rLt s) (hn : n < 40) (had : d + a ≤ 32) (ho : o + d ≤ 32) : ∀ l t, t + l = d → Q (some (.int (if rStd s n l (t + a) (o + t) then 1 else 0))) M nx →
    XZ E 128 (xZ E 128 Q) 25 [some (.ref m), some (.int (nI a)), some (.int (nI (d + a))), some (.int (nI n)), some (.int (nI o)), some (.int (nI (t + a)))] [] M nx 0 0 := by
  intro l
  induction l with
  | zero =>
    intro t ht hq
    obtain rfl : t = d := by omega
    refine XZ.runH 60 [25] ?_
    simp only [n128, t128, ↓xh, ↓xst, ↓xrunE, ↓rG, rL, rSt, updA, List.elem_nil, List.elem_cons, Nat.reduceBEq, Bool.false_eq_true, if_false, if_true, true_and, and_true, true_or, or_true, not_false_eq_true, Nat.reduceAdd, Nat.reduceSub, Nat.reduceLeDiff, Nat.reduceEqDiff, Nat.reduceLT, ↓reduceIte, List.length_cons, List.length_nil, List.set_cons_zero, List.set_cons_succ, Nat.le_refl, Nat.zero_le, Nat.zero_sub, Nat.sub_zero, List.nil_append, List.cons_append, Option.toList_some, Option.toList_none, eq_self, nI_le (Nat.le_refl (t + a)) (show t + a < 2 ^ 31 by omega)]
    exact hq
  | succ l ih =>
    intro t ht hq
    have ex : nI (32 * n + o + (t + a)) - nI a = nI (32 * n + (o + t)) := by rw [← Nat.add_assoc, nI_subr, Nat.add_assoc]
    rw [rStd] at hq
    refine XZ.runH 60 [25] ?_
    simp only [n128, n130, t128, ↓xh, ↓xst, ↓xrunE, ↓rG, rL, rSt, updA, List.elem_nil, List.elem_cons, Nat.reduceBEq, Bool.false_eq_true, if_false, if_true, true_and, and_true, true_or, or_true, not_false_eq_true, Nat.reduceAdd, Nat.reduceSub, Nat.reduceLeDiff, Nat.reduceEqDiff, Nat.reduceLT, ↓reduceIte, List.length_cons, List.length_nil, List.set_cons_zero, List.set_cons_succ, Nat.le_refl, Nat.zero_le, Nat.zero_sub, Nat.sub_zero, List.nil_append, List.cons_append, Option.toList_some, Option.toList_none, eq_self, ↓rO1 h, ↓rB h, nI_ge (show t + a < d + a by omega) (show d + a < 2 ^ 31 by omega), nIx (show t + a < 32 by omega)]
    refine rc130 (hl.2.2 _ (by omega)) ?_
    refine XZ.runH 60 [25] ?_
    simp only [n128, n130, t128, ↓xh, ↓xst, ↓xrunE, ↓rG, rL, rSt, updA, List.elem_nil, List.elem_cons, Nat.reduceBEq, Bool.false_eq_true, if_false, if_true, true_and, and_true, true_or, or_true, not_false_eq_true, Nat.reduceAdd, Nat.reduceSub, Nat.reduceLeDiff, Nat.reduceEqDiff, Nat.reduceLT, ↓reduceIte, List.length_cons, List.length_nil, List.set_cons_zero, List.set_cons_succ, Nat.le_refl, Nat.zero_le, Nat.zero_sub, Nat.sub_zero, List.nil_append, List.cons_append, Option.toList_some, Option.toList_none, eq_self, ↓rO1 h, ↓rB h, nIm32, nI_add, ex, nIx (show 32 * n + (o + t) < 1280 by omega)]
    refine rc130 (hl.2.1 _ (by omega)) ?_
    refine XZ.runH 60 [25] ?_
    by_cases c : rSm (s.2 1 (t + a)) = rSm (s.2 2 (32 * n + (o + t)))
    · simp only [n128, t128, ↓xh, ↓xst, ↓xrunE, ↓rG, rL, rSt, updA, List.elem_nil, List.elem_cons, Nat.reduceBEq, Bool.false_eq_true, if_false, if_true, true_and, and_true, true_or, or_true, not_false_eq_true, Nat.reduceAdd, Nat.reduceSub, Nat.reduceLeDiff, Nat.reduceEqDiff, Nat.reduceLT, ↓reduceIte, List.length_cons, List.length_nil, List.set_cons_zero, List.set_cons_succ, Nat.le_refl, Nat.zero_le, Nat.zero_sub, Nat.sub_zero, List.nil_append, List.cons_append, Option.toList_some, Option.toList_none, eq_self, c, nI_1]
      rw [if_pos c] at hq
      rw [show t + a + 1 = t + 1 + a by omega] at hq ⊢
      exact ih (t + 1) (by omega) hq
    · simp only [n128, t128, ↓xh, ↓xst, ↓xrunE, ↓rG, rL, rSt, updA, List.elem_nil, List.elem_cons, Nat.reduceBEq, Bool.false_eq_true, if_false, if_true, true_and, and_true, true_or, or_true, not_false_eq_true, Nat.reduceAdd, Nat.reduceSub, Nat.reduceLeDiff, Nat.reduceEqDiff, Nat.reduceLT, ↓reduceIte, List.length_cons, List.length_nil, List.set_cons_zero, List.set_cons_succ, Nat.le_refl, Nat.zero_le, Nat.zero_sub, Nat.sub_zero, List.nil_append, List.cons_append, Option.toList_some, Option.toList_none, eq_self, c]
      rw [if_neg c] at hq
      exact hq
def rStands (s : rS) (n o a b : Nat) : Bool := decide (o + (b - a) ≤ rLn s n) && rStd s n (b - a) a o
set_option maxRecDepth 100000 in
set_option maxHeartbeats 4000000 in
theorem rc128 {E : xE} {M : xM} {m nx a b n o : Nat} {s : rS} {Q : Option Value → xM → Nat → Prop} (h : rRep M m s) (hl : rLt s) (hn : n < 40) (hab : a ≤ b) (hb : b ≤ 32) (ho : o ≤ 64) (hq : Q (some (.int (if rStands s n o a b then 1 else 0))) M nx) : XC E 128 [.ref m, .int (nI a), .int (nI b), .int (nI n), .int (nI o)] M nx Q := by
  obtain ⟨d, rfl⟩ : ∃ d, b = d + a := ⟨b - a, by omega⟩
  rw [rStands, Nat.add_sub_cancel] at hq
  have ex : nI (o + (d + a)) - nI a = nI (o + d) := by rw [← Nat.add_assoc, nI_subr]
  obtain ⟨hL, eL⟩ := hl.1 n hn
  refine XC.run 60 [25] ?_
  by_cases c : o + d ≤ rLn s n
  · simp only [n128, t128, ↓xh, ↓xst, ↓xrunE, ↓rG, rL, rSt, updA, List.elem_nil, List.elem_cons, Nat.reduceBEq, Bool.false_eq_true, if_false, if_true, true_and, and_true, true_or, or_true, not_false_eq_true, Nat.reduceAdd, Nat.reduceSub, Nat.reduceLeDiff, Nat.reduceEqDiff, Nat.reduceLT, ↓reduceIte, List.length_cons, List.length_nil, List.set_cons_zero, List.set_cons_succ, Nat.le_refl, Nat.zero_le, Nat.zero_sub, Nat.sub_zero, List.nil_append, List.cons_append, Option.toList_some, Option.toList_none, eq_self, ↓rO1 h, ↓rB h, nI_pos (show o < 2 ^ 31 by omega), nI_add, ex, nIx hn, eL, nI_le c (show rLn s n < 2 ^ 31 by omega)]
    have := rl128 (o := o) (Q := Q) (E := E) (nx := nx) h hl hn hb (by omega) d 0 (by omega)
    rw [Nat.zero_add, Nat.add_zero] at this
    refine this ?_
    simpa [c] using hq
  · simp only [n128, t128, ↓xh, ↓xst, ↓xrunE, ↓rG, rL, rSt, updA, List.elem_nil, List.elem_cons, Nat.reduceBEq, Bool.false_eq_true, if_false, if_true, true_and, and_true, true_or, or_true, not_false_eq_true, Nat.reduceAdd, Nat.reduceSub, Nat.reduceLeDiff, Nat.reduceEqDiff, Nat.reduceLT, ↓reduceIte, List.length_cons, List.length_nil, List.set_cons_zero, List.set_cons_succ, Nat.le_refl, Nat.zero_le, Nat.zero_sub, Nat.sub_zero, List.nil_append, List.cons_append, Option.toList_some, Option.toList_none, eq_self, ↓rO1 h, ↓rB h, nI_pos (show o < 2 ^ 31 by omega), nI_add, ex, nIx hn, eL, nI_ge (show rLn s n < o + d by omega) (show o + d < 2 ^ 31 by omega)]
    simpa [c] using hq
def rFits (s : rS) (a b n : Nat) : Bool := match rPl s 126 (b - a) a with
  | some t => decide ((t - a) + (b - t - 1) ≤ rLn s n) && rStands s n 0 a t && rStands s n (rLn s n - (b - t - 1)) (t + 1) b
  | none => decide (s.2 1 a = 61) || (decide (rLn s n = b - a) && rStands s n 0 a b)
theorem nI_inj {a b : Nat} (ha : a < 2 ^ 31) (hb : b < 2 ^ 31) (h : nI a = nI b) : a = b := by rw [← nI_clamp ha, h, nI_clamp hb]
set_option maxRecDepth 100000 in
set_option maxHeartbeats 4000000 in
theorem rc119 {E : xE} {M : xM} {m nx a b n : Nat} {s : rS} {Q : Option Value → xM → Nat → Prop} (h : rRep M m s) (hl : rLt s) (hn : n < 40) (hab : a < b) (hb : b ≤ 32) (hq : Q (some (.int (if rFits s a b n then 1 else 0))) M nx) : XC E 119 [.ref m, .int (nI a), .int (nI b), .int (nI n)] M nx Q := by
  obtain ⟨hL, eL⟩ := hl.1 n hn
  have sb : ∀ x y, y ≤ x → nI x - nI y = nI (x - y) := fun x y hxy => by
    have := nI_subr (x - y) y
    rwa [Nat.sub_add_cancel hxy] at this
  refine XC.run 60 [] ?_
  simp only [n119, n129, t119, ↓xh, ↓xst, ↓xrunE, ↓rG, rL, rSt, updA, List.elem_nil, List.elem_cons, Nat.reduceBEq, Bool.false_eq_true, if_false, if_true, true_and, and_true, true_or, or_true, not_false_eq_true, Nat.reduceAdd, Nat.reduceSub, Nat.reduceLeDiff, Nat.reduceEqDiff, Nat.reduceLT, ↓reduceIte, List.length_cons, List.length_nil, List.set_cons_zero, List.set_cons_succ, Nat.le_refl, Nat.zero_le, Nat.zero_sub, Nat.sub_zero, List.nil_append, List.cons_append, Option.toList_some, Option.toList_none, eq_self, ↓rO1 h]
  refine rc129 h hb (by omega) ?_
  rw [rFits] at hq
  refine XZ.runH 60 [] ?_
  cases hp : rPl s 126 (b - a) a with
  | some t =>
    rw [hp] at hq
    dsimp only at hq
    have ht := rPl_lt _ _ _ _ _ hp
    have s1 := sb b t (by omega)
    have s2 : nI (b - t) - 1 = nI (b - t - 1) := sb (b - t) 1 (by omega)
    have s3 := sb t a (by omega)
    by_cases c1 : (t - a) + (b - t - 1) ≤ rLn s n
    rotate_left
    · have g1 : nI (rLn s n) < nI (t - a + (b - t - 1)) := k2_lt (nI_ge (show rLn s n < t - a + (b - t - 1) by omega) (show t - a + (b - t - 1) < 2 ^ 31 by omega))
      simp only [n119, t119, ↓xh, ↓xst, ↓xrunE, ↓rG, rL, rSt, updA, List.elem_nil, List.elem_cons, Nat.reduceBEq, Bool.false_eq_true, if_false, if_true, true_and, and_true, true_or, or_true, not_false_eq_true, Nat.reduceAdd, Nat.reduceSub, Nat.reduceLeDiff, Nat.reduceEqDiff, Nat.reduceLT, ↓reduceIte, List.length_cons, List.length_nil, List.set_cons_zero, List.set_cons_succ, Nat.le_refl, Nat.zero_le, Nat.zero_sub, Nat.sub_zero, List.nil_append, List.cons_append, Option.toList_some, Option.toList_none, eq_self, Option.elim, lF (nI_pos (show t < 2 ^ 31 by omega)), s1, s2, s3, ↓rO1 h, ↓rB h, nIx hn, eL, nI_add, lT g1]
      simpa [c1] using hq
    have s4 := sb (rLn s n) (b - t - 1) (by omega)
    simp only [n119, n128, t119, ↓xh, ↓xst, ↓xrunE, ↓rG, rL, rSt, updA, List.elem_nil, List.elem_cons, Nat.reduceBEq, Bool.false_eq_true, if_false, if_true, true_and, and_true, true_or, or_true, not_false_eq_true, Nat.reduceAdd, Nat.reduceSub, Nat.reduceLeDiff, Nat.reduceEqDiff, Nat.reduceLT, ↓reduceIte, List.length_cons, List.length_nil, List.set_cons_zero, List.set_cons_succ, Nat.le_refl, Nat.zero_le, Nat.zero_sub, Nat.sub_zero, List.nil_append, List.cons_append, Option.toList_some, Option.toList_none, eq_self, Option.elim, lF (nI_pos (show t < 2 ^ 31 by omega)), s1, s2, s3, ↓rO1 h, ↓rB h, nIx hn, eL, nI_add, eT (nI_le c1 (show rLn s n < 2 ^ 31 by omega))]
    refine rc128 (o := 0) h hl hn (by omega) (by omega) (by omega) ?_
    refine XZ.runH 60 [] ?_
    by_cases c2 : rStands s n 0 a t = true
    rotate_left
    · simp only [n119, t119, ↓xh, ↓xst, ↓xrunE, ↓rG, rL, rSt, updA, List.elem_nil, List.elem_cons, Nat.reduceBEq, Bool.false_eq_true, if_false, if_true, true_and, and_true, true_or, or_true, not_false_eq_true, Nat.reduceAdd, Nat.reduceSub, Nat.reduceLeDiff, Nat.reduceEqDiff, Nat.reduceLT, ↓reduceIte, List.length_cons, List.length_nil, List.set_cons_zero, List.set_cons_succ, Nat.le_refl, Nat.zero_le, Nat.zero_sub, Nat.sub_zero, List.nil_append, List.cons_append, Option.toList_some, Option.toList_none, eq_self, c2]
      simpa [c2] using hq
    simp only [n119, n128, t119, ↓xh, ↓xst, ↓xrunE, ↓rG, rL, rSt, updA, List.elem_nil, List.elem_cons, Nat.reduceBEq, Bool.false_eq_true, if_false, if_true, true_and, and_true, true_or, or_true, not_false_eq_true, Nat.reduceAdd, Nat.reduceSub, Nat.reduceLeDiff, Nat.reduceEqDiff, Nat.reduceLT, ↓reduceIte, List.length_cons, List.length_nil, List.set_cons_zero, List.set_cons_succ, Nat.le_refl, Nat.zero_le, Nat.zero_sub, Nat.sub_zero, List.nil_append, List.cons_append, Option.toList_some, Option.toList_none, eq_self, c2, show ¬ (1 : Int32) = 0 by decide, ↓rO1 h, ↓rB h, nIx hn, eL, s4, nI_1]
    refine rc128 h hl hn (by omega) (by omega) (by omega) ?_
    refine XZ.runH 60 [] ?_
    by_cases c3 : rStands s n (rLn s n - (b - t - 1)) (t + 1) b = true
    · simp only [n119, t119, ↓xh, ↓xst, ↓xrunE, ↓rG, rL, rSt, updA, List.elem_nil, List.elem_cons, Nat.reduceBEq, Bool.false_eq_true, if_false, if_true, true_and, and_true, true_or, or_true, not_false_eq_true, Nat.reduceAdd, Nat.reduceSub, Nat.reduceLeDiff, Nat.reduceEqDiff, Nat.reduceLT, ↓reduceIte, List.length_cons, List.length_nil, List.set_cons_zero, List.set_cons_succ, Nat.le_refl, Nat.zero_le, Nat.zero_sub, Nat.sub_zero, List.nil_append, List.cons_append, Option.toList_some, Option.toList_none, eq_self, c3, show ¬ (1 : Int32) = 0 by decide]
      simpa [c1, c2, c3] using hq
    · simp only [n119, t119, ↓xh, ↓xst, ↓xrunE, ↓rG, rL, rSt, updA, List.elem_nil, List.elem_cons, Nat.reduceBEq, Bool.false_eq_true, if_false, if_true, true_and, and_true, true_or, or_true, not_false_eq_true, Nat.reduceAdd, Nat.reduceSub, Nat.reduceLeDiff, Nat.reduceEqDiff, Nat.reduceLT, ↓reduceIte, List.length_cons, List.length_nil, List.set_cons_zero, List.set_cons_succ, Nat.le_refl, Nat.zero_le, Nat.zero_sub, Nat.sub_zero, List.nil_append, List.cons_append, Option.toList_some, Option.toList_none, eq_self, c3]
      simpa [c3] using hq
  | none =>
    rw [hp] at hq
    dsimp only at hq
    by_cases c1 : s.2 1 a = 61
    · simp only [n119, t119, ↓xh, ↓xst, ↓xrunE, ↓rG, rL, rSt, updA, List.elem_nil, List.elem_cons, Nat.reduceBEq, Bool.false_eq_true, if_false, if_true, true_and, and_true, true_or, or_true, not_false_eq_true, Nat.reduceAdd, Nat.reduceSub, Nat.reduceLeDiff, Nat.reduceEqDiff, Nat.reduceLT, ↓reduceIte, List.length_cons, List.length_nil, List.set_cons_zero, List.set_cons_succ, Nat.le_refl, Nat.zero_le, Nat.zero_sub, Nat.sub_zero, List.nil_append, List.cons_append, Option.toList_some, Option.toList_none, eq_self, Option.elim, show (-1 : Int32) < 0 by decide, ↓rO1 h, ↓rB h, nIx (show a < 32 by omega), c1]
      simpa [c1] using hq
    by_cases c2 : rLn s n = b - a
    rotate_left
    · have n2 : ¬ nI (rLn s n) = nI (b - a) := fun z => c2 (nI_inj (by omega) (by omega) z)
      simp only [n119, t119, ↓xh, ↓xst, ↓xrunE, ↓rG, rL, rSt, updA, List.elem_nil, List.elem_cons, Nat.reduceBEq, Bool.false_eq_true, if_false, if_true, true_and, and_true, true_or, or_true, not_false_eq_true, Nat.reduceAdd, Nat.reduceSub, Nat.reduceLeDiff, Nat.reduceEqDiff, Nat.reduceLT, ↓reduceIte, List.length_cons, List.length_nil, List.set_cons_zero, List.set_cons_succ, Nat.le_refl, Nat.zero_le, Nat.zero_sub, Nat.sub_zero, List.nil_append, List.cons_append, Option.toList_some, Option.toList_none, eq_self, Option.elim, show (-1 : Int32) < 0 by decide, ↓rO1 h, ↓rB h, nIx (show a < 32 by omega), c1, nIx hn, eL, sb b a (by omega), n2]
      simpa [c1, c2] using hq
    simp only [n119, n128, t119, ↓xh, ↓xst, ↓xrunE, ↓rG, rL, rSt, updA, List.elem_nil, List.elem_cons, Nat.reduceBEq, Bool.false_eq_true, if_false, if_true, true_and, and_true, true_or, or_true, not_false_eq_true, Nat.reduceAdd, Nat.reduceSub, Nat.reduceLeDiff, Nat.reduceEqDiff, Nat.reduceLT, ↓reduceIte, List.length_cons, List.length_nil, List.set_cons_zero, List.set_cons_succ, Nat.le_refl, Nat.zero_le, Nat.zero_sub, Nat.sub_zero, List.nil_append, List.cons_append, Option.toList_some, Option.toList_none, eq_self, Option.elim, show (-1 : Int32) < 0 by decide, ↓rO1 h, ↓rB h, nIx (show a < 32 by omega), c1, nIx hn, eL, sb b a (by omega), c2]
    refine rc128 (o := 0) h hl hn (by omega) (by omega) (by omega) ?_
    refine XZ.runH 60 [] ?_
    by_cases c3 : rStands s n 0 a b = true
    · simp only [n119, t119, ↓xh, ↓xst, ↓xrunE, ↓rG, rL, rSt, updA, List.elem_nil, List.elem_cons, Nat.reduceBEq, Bool.false_eq_true, if_false, if_true, true_and, and_true, true_or, or_true, not_false_eq_true, Nat.reduceAdd, Nat.reduceSub, Nat.reduceLeDiff, Nat.reduceEqDiff, Nat.reduceLT, ↓reduceIte, List.length_cons, List.length_nil, List.set_cons_zero, List.set_cons_succ, Nat.le_refl, Nat.zero_le, Nat.zero_sub, Nat.sub_zero, List.nil_append, List.cons_append, Option.toList_some, Option.toList_none, eq_self, c3, show ¬ (1 : Int32) = 0 by decide]
      simpa [c1, c2, c3] using hq
    · simp only [n119, t119, ↓xh, ↓xst, ↓xrunE, ↓rG, rL, rSt, updA, List.elem_nil, List.elem_cons, Nat.reduceBEq, Bool.false_eq_true, if_false, if_true, true_and, and_true, true_or, or_true, not_false_eq_true, Nat.reduceAdd, Nat.reduceSub, Nat.reduceLeDiff, Nat.reduceEqDiff, Nat.reduceLT, ↓reduceIte, List.length_cons, List.length_nil, List.set_cons_zero, List.set_cons_succ, Nat.le_refl, Nat.zero_le, Nat.zero_sub, Nat.sub_zero, List.nil_append, List.cons_append, Option.toList_some, Option.toList_none, eq_self, c3]
      simpa [c1, c3] using hq
/-- the same name: l letters are left, from k on -/
def rSaN (s : rS) (x y : Nat) : Nat → Nat → Bool → Bool
  | 0, _, v => v
  | l + 1, k, v => if v then rSaN s x y l (k + 1) (decide (rSm (s.2 2 (32 * x + k)) = rSm (s.2 2 (32 * y + k)))) else false
set_option maxRecDepth 100000 in
set_option maxHeartbeats 4000000 in
theorem rl127 {E : xE} {M : xM} {m nx x y : Nat} {s : rS} {Q : Option Value → xM → Nat → Prop} (h : rRep M m s) (hl : rLt s) (hx : x < 40) (hy : y < 40) : ∀ l k (v : Bool), k + l = rLn s x → Q (some (.int (if rSaN s x y l k v then 1 else 0))) M nx →
    XZ E 127 (xZ E 127 Q) 24 [some (.ref m), some (.int (nI x)), some (.int (nI y)), some (.int (if v then 1 else 0)), some (.int (nI k))] [] M nx 0 0 := by
  obtain ⟨hL, eL⟩ := hl.1 x hx
  intro l
  induction l with
  | zero =>
    intro k v hk hq
    refine XZ.runH 60 [24] ?_
    cases v
    · simp only [n127, t127, ↓xh, ↓xst, ↓xrunE, ↓rG, rL, rSt, updA, List.elem_nil, List.elem_cons, Nat.reduceBEq, Bool.false_eq_true, if_false, if_true, true_and, and_true, true_or, or_true, not_false_eq_true, Nat.reduceAdd, Nat.reduceSub, Nat.reduceLeDiff, Nat.reduceEqDiff, Nat.reduceLT, ↓reduceIte, List.length_cons, List.length_nil, List.set_cons_zero, List.set_cons_succ, Nat.le_refl, Nat.zero_le, Nat.zero_sub, Nat.sub_zero, List.nil_append, List.cons_append, Option.toList_some, Option.toList_none, eq_self, ↓rO1 h, ↓rB h, nIx hx, eL, nI_le (show rLn s x ≤ k by omega) (show k < 2 ^ 31 by omega)]
      exact hq
    · simp only [n127, t127, ↓xh, ↓xst, ↓xrunE, ↓rG, rL, rSt, updA, List.elem_nil, List.elem_cons, Nat.reduceBEq, Bool.false_eq_true, if_false, if_true, true_and, and_true, true_or, or_true, not_false_eq_true, Nat.reduceAdd, Nat.reduceSub, Nat.reduceLeDiff, Nat.reduceEqDiff, Nat.reduceLT, ↓reduceIte, List.length_cons, List.length_nil, List.set_cons_zero, List.set_cons_succ, Nat.le_refl, Nat.zero_le, Nat.zero_sub, Nat.sub_zero, List.nil_append, List.cons_append, Option.toList_some, Option.toList_none, eq_self, ↓rO1 h, ↓rB h, nIx hx, eL, nI_le (show rLn s x ≤ k by omega) (show k < 2 ^ 31 by omega), show ¬ (1 : Int32) = 0 by decide]
      exact hq
  | succ l ih =>
    intro k v hk hq
    rw [rSaN] at hq
    refine XZ.runH 60 [24] ?_
    cases v with
    | false =>
      simp only [n127, t127, ↓xh, ↓xst, ↓xrunE, ↓rG, rL, rSt, updA, List.elem_nil, List.elem_cons, Nat.reduceBEq, Bool.false_eq_true, if_false, if_true, true_and, and_true, true_or, or_true, not_false_eq_true, Nat.reduceAdd, Nat.reduceSub, Nat.reduceLeDiff, Nat.reduceEqDiff, Nat.reduceLT, ↓reduceIte, List.length_cons, List.length_nil, List.set_cons_zero, List.set_cons_succ, Nat.le_refl, Nat.zero_le, Nat.zero_sub, Nat.sub_zero, List.nil_append, List.cons_append, Option.toList_some, Option.toList_none, eq_self, ↓rO1 h, ↓rB h, nIx hx, eL, nI_ge (show k < rLn s x by omega) (show rLn s x < 2 ^ 31 by omega)]
      exact hq
    | true =>
      rw [if_pos rfl] at hq
      simp only [n127, n130, t127, ↓xh, ↓xst, ↓xrunE, ↓rG, rL, rSt, updA, List.elem_nil, List.elem_cons, Nat.reduceBEq, Bool.false_eq_true, if_false, if_true, true_and, and_true, true_or, or_true, not_false_eq_true, Nat.reduceAdd, Nat.reduceSub, Nat.reduceLeDiff, Nat.reduceEqDiff, Nat.reduceLT, ↓reduceIte, List.length_cons, List.length_nil, List.set_cons_zero, List.set_cons_succ, Nat.le_refl, Nat.zero_le, Nat.zero_sub, Nat.sub_zero, List.nil_append, List.cons_append, Option.toList_some, Option.toList_none, eq_self, ↓rO1 h, ↓rB h, nIx hx, eL, nI_ge (show k < rLn s x by omega) (show rLn s x < 2 ^ 31 by omega), show ¬ (1 : Int32) = 0 by decide, nIm32, nI_add, nIx (show 32 * x + k < 1280 by omega)]
      refine rc130 (hl.2.1 _ (by omega)) ?_
      refine XZ.runH 60 [24] ?_
      simp only [n127, n130, t127, ↓xh, ↓xst, ↓xrunE, ↓rG, rL, rSt, updA, List.elem_nil, List.elem_cons, Nat.reduceBEq, Bool.false_eq_true, if_false, if_true, true_and, and_true, true_or, or_true, not_false_eq_true, Nat.reduceAdd, Nat.reduceSub, Nat.reduceLeDiff, Nat.reduceEqDiff, Nat.reduceLT, ↓reduceIte, List.length_cons, List.length_nil, List.set_cons_zero, List.set_cons_succ, Nat.le_refl, Nat.zero_le, Nat.zero_sub, Nat.sub_zero, List.nil_append, List.cons_append, Option.toList_some, Option.toList_none, eq_self, ↓rO1 h, ↓rB h, nIm32, nI_add, nIx (show 32 * y + k < 1280 by omega)]
      refine rc130 (hl.2.1 _ (by omega)) ?_
      refine XZ.runH 60 [24] ?_
      by_cases c : rSm (s.2 2 (32 * x + k)) = rSm (s.2 2 (32 * y + k))
      · simp only [n127, t127, ↓xh, ↓xst, ↓xrunE, ↓rG, rL, rSt, updA, List.elem_nil, List.elem_cons, Nat.reduceBEq, Bool.false_eq_true, if_false, if_true, true_and, and_true, true_or, or_true, not_false_eq_true, Nat.reduceAdd, Nat.reduceSub, Nat.reduceLeDiff, Nat.reduceEqDiff, Nat.reduceLT, ↓reduceIte, List.length_cons, List.length_nil, List.set_cons_zero, List.set_cons_succ, Nat.le_refl, Nat.zero_le, Nat.zero_sub, Nat.sub_zero, List.nil_append, List.cons_append, Option.toList_some, Option.toList_none, eq_self, c, nI_1]
        rw [decide_eq_true c] at hq
        exact ih (k + 1) true (by omega) hq
      · simp only [n127, t127, ↓xh, ↓xst, ↓xrunE, ↓rG, rL, rSt, updA, List.elem_nil, List.elem_cons, Nat.reduceBEq, Bool.false_eq_true, if_false, if_true, true_and, and_true, true_or, or_true, not_false_eq_true, Nat.reduceAdd, Nat.reduceSub, Nat.reduceLeDiff, Nat.reduceEqDiff, Nat.reduceLT, ↓reduceIte, List.length_cons, List.length_nil, List.set_cons_zero, List.set_cons_succ, Nat.le_refl, Nat.zero_le, Nat.zero_sub, Nat.sub_zero, List.nil_append, List.cons_append, Option.toList_some, Option.toList_none, eq_self, c, nI_1]
        rw [decide_eq_false c] at hq
        exact ih (k + 1) false (by omega) hq
def rSame (s : rS) (x y : Nat) : Bool := rSaN s x y (rLn s x) 0 (decide (rLn s x = rLn s y))
set_option maxRecDepth 100000 in
set_option maxHeartbeats 4000000 in
theorem rc127 {E : xE} {M : xM} {m nx x y : Nat} {s : rS} {Q : Option Value → xM → Nat → Prop} (h : rRep M m s) (hl : rLt s) (hx : x < 40) (hy : y < 40) (hq : Q (some (.int (if rSame s x y then 1 else 0))) M nx) : XC E 127 [.ref m, .int (nI x), .int (nI y)] M nx Q := by
  obtain ⟨hL, eL⟩ := hl.1 x hx
  obtain ⟨hL', eL'⟩ := hl.1 y hy
  rw [rSame] at hq
  refine XC.run 60 [24] ?_
  by_cases c : rLn s x = rLn s y
  · simp only [n127, t127, ↓xh, ↓xst, ↓xrunE, ↓rG, rL, rSt, updA, List.elem_nil, List.elem_cons, Nat.reduceBEq, Bool.false_eq_true, if_false, if_true, true_and, and_true, true_or, or_true, not_false_eq_true, Nat.reduceAdd, Nat.reduceSub, Nat.reduceLeDiff, Nat.reduceEqDiff, Nat.reduceLT, ↓reduceIte, List.length_cons, List.length_nil, List.set_cons_zero, List.set_cons_succ, Nat.le_refl, Nat.zero_le, Nat.zero_sub, Nat.sub_zero, List.nil_append, List.cons_append, Option.toList_some, Option.toList_none, eq_self, ↓rO1 h, ↓rB h, nIx hx, nIx hy, eL, eL', c]
    rw [decide_eq_true c] at hq
    exact rl127 h hl hx hy _ 0 true (by omega) hq
  · simp only [n127, t127, ↓xh, ↓xst, ↓xrunE, ↓rG, rL, rSt, updA, List.elem_nil, List.elem_cons, Nat.reduceBEq, Bool.false_eq_true, if_false, if_true, true_and, and_true, true_or, or_true, not_false_eq_true, Nat.reduceAdd, Nat.reduceSub, Nat.reduceLeDiff, Nat.reduceEqDiff, Nat.reduceLT, ↓reduceIte, List.length_cons, List.length_nil, List.set_cons_zero, List.set_cons_succ, Nat.le_refl, Nat.zero_le, Nat.zero_sub, Nat.sub_zero, List.nil_append, List.cons_append, Option.toList_some, Option.toList_none, eq_self, ↓rO1 h, ↓rB h, nIx hx, nIx hy, eL, eL', show ¬ nI (rLn s x) = nI (rLn s y) from fun z => c (nI_inj (by omega) (by omega) z)]
    rw [decide_eq_false c] at hq
    exact rl127 h hl hx hy _ 0 false (by omega) hq
