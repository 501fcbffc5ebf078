/-- the text -/
def rSign (x : Int32) : Bool := decide (x = 58) || decide (x = 64) || decide (x = 61) || decide (x = 126) || decide (x = 42)
set_option maxRecDepth 100000 in
set_option maxHeartbeats 4000000 in
theorem rc126 {E : xE} {M : xM} {nx : Nat} {x : Int32} {Q : Option Value → xM → Nat → Prop} (hq : Q (some (.int (if rSign x then 1 else 0))) M nx) : XC E 126 [.int x] M nx Q := by
  refine XC.run 60 [] ?_
  by_cases c1 : x = 58
  · simp only [n126, t126, ↓xh, ↓xst, ↓xrunE, ↓rG, rL, rSt, updA, List.elem_nil, List.elem_cons, Nat.reduceBEq, Bool.false_eq_true, if_false, if_true, true_and, and_true, true_or, or_true, not_false_eq_true, Nat.reduceAdd, Nat.reduceSub, Nat.reduceLeDiff, Nat.reduceEqDiff, Nat.reduceLT, ↓reduceIte, List.length_cons, List.length_nil, List.set_cons_zero, List.set_cons_succ, Nat.le_refl, Nat.zero_le, Nat.zero_sub, Nat.sub_zero, List.nil_append, List.cons_append, Option.toList_some, Option.toList_none, eq_self, c1]
    simpa [rSign, c1] using hq
  by_cases c2 : x = 64
  · simp only [n126, t126, ↓xh, ↓xst, ↓xrunE, ↓rG, rL, rSt, updA, List.elem_nil, List.elem_cons, Nat.reduceBEq, Bool.false_eq_true, if_false, if_true, true_and, and_true, true_or, or_true, not_false_eq_true, Nat.reduceAdd, Nat.reduceSub, Nat.reduceLeDiff, Nat.reduceEqDiff, Nat.reduceLT, ↓reduceIte, List.length_cons, List.length_nil, List.set_cons_zero, List.set_cons_succ, Nat.le_refl, Nat.zero_le, Nat.zero_sub, Nat.sub_zero, List.nil_append, List.cons_append, Option.toList_some, Option.toList_none, eq_self, c1, c2]
    simpa [rSign, c2] using hq
  by_cases c3 : x = 61
  · simp only [n126, t126, ↓xh, ↓xst, ↓xrunE, ↓rG, rL, rSt, updA, List.elem_nil, List.elem_cons, Nat.reduceBEq, Bool.false_eq_true, if_false, if_true, true_and, and_true, true_or, or_true, not_false_eq_true, Nat.reduceAdd, Nat.reduceSub, Nat.reduceLeDiff, Nat.reduceEqDiff, Nat.reduceLT, ↓reduceIte, List.length_cons, List.length_nil, List.set_cons_zero, List.set_cons_succ, Nat.le_refl, Nat.zero_le, Nat.zero_sub, Nat.sub_zero, List.nil_append, List.cons_append, Option.toList_some, Option.toList_none, eq_self, c1, c2, c3]
    simpa [rSign, c3] using hq
  by_cases c4 : x = 126
  · simp only [n126, t126, ↓xh, ↓xst, ↓xrunE, ↓rG, rL, rSt, updA, List.elem_nil, List.elem_cons, Nat.reduceBEq, Bool.false_eq_true, if_false, if_true, true_and, and_true, true_or, or_true, not_false_eq_true, Nat.reduceAdd, Nat.reduceSub, Nat.reduceLeDiff, Nat.reduceEqDiff, Nat.reduceLT, ↓reduceIte, List.length_cons, List.length_nil, List.set_cons_zero, List.set_cons_succ, Nat.le_refl, Nat.zero_le, Nat.zero_sub, Nat.sub_zero, List.nil_append, List.cons_append, Option.toList_some, Option.toList_none, eq_self, c1, c2, c3, c4]
    simpa [rSign, c4] using hq
  by_cases c5 : x = 42
  · simp only [n126, t126, ↓xh, ↓xst, ↓xrunE, ↓rG, rL, rSt, updA, List.elem_nil, List.elem_cons, Nat.reduceBEq, Bool.false_eq_true, if_false, if_true, true_and, and_true, true_or, or_true, not_false_eq_true, Nat.reduceAdd, Nat.reduceSub, Nat.reduceLeDiff, Nat.reduceEqDiff, Nat.reduceLT, ↓reduceIte, List.length_cons, List.length_nil, List.set_cons_zero, List.set_cons_succ, Nat.le_refl, Nat.zero_le, Nat.zero_sub, Nat.sub_zero, List.nil_append, List.cons_append, Option.toList_some, Option.toList_none, eq_self, c1, c2, c3, c4, c5]
    simpa [rSign, c5] using hq
  simp only [n126, t126, ↓xh, ↓xst, ↓xrunE, ↓rG, rL, rSt, updA, List.elem_nil, List.elem_cons, Nat.reduceBEq, Bool.false_eq_true, if_false, if_true, true_and, and_true, true_or, or_true, not_false_eq_true, Nat.reduceAdd, Nat.reduceSub, Nat.reduceLeDiff, Nat.reduceEqDiff, Nat.reduceLT, ↓reduceIte, List.length_cons, List.length_nil, List.set_cons_zero, List.set_cons_succ, Nat.le_refl, Nat.zero_le, Nat.zero_sub, Nat.sub_zero, List.nil_append, List.cons_append, Option.toList_some, Option.toList_none, eq_self, c1, c2, c3, c4, c5]
  simpa [rSign, c1, c2, c3, c4, c5] using hq
def rSm (x : Int32) : Int32 := if x < 65 then x else if 90 < x then x else x + 32
def rCh (x : Int32) : Prop := ∃ n, n < 128 ∧ x = nI n
theorem rCh_n : ∀ n, n < 128 → ((nI n).toUInt32 % 65536).toInt32 = nI n := by decide +kernel
theorem rCh_32 : ∀ n, n < 128 → ¬ 90 < nI n → ((nI n + 32).toUInt32 % 65536).toInt32 = nI n + 32 := by decide +kernel
theorem rCh_v {x : Int32} (h : rCh x) : (narrow FieldType.char (Value.int x) = Value.int x) = True := by
  obtain ⟨n, hn, rfl⟩ := h
  refine eq_true ?_
  show Value.int _ = _
  exact congrArg Value.int (rCh_n n hn)
theorem rCh_sm : ∀ n, n < 128 → ¬ nI n < 65 → ¬ 90 < nI n → nI n + 32 = nI (n + 32) ∧ n + 32 < 128 := by decide +kernel
theorem rCh_s {x : Int32} (h : rCh x) : rCh (rSm x) := by
  obtain ⟨n, hn, rfl⟩ := h
  rw [rSm]
  split
  · exact ⟨n, hn, rfl⟩
  · split
    · exact ⟨n, hn, rfl⟩
    · next a b => exact ⟨n + 32, (rCh_sm n hn a b).2, (rCh_sm n hn a b).1⟩
set_option maxRecDepth 100000 in
set_option maxHeartbeats 4000000 in
theorem rc130 {E : xE} {M : xM} {nx : Nat} {x : Int32} {Q : Option Value → xM → Nat → Prop} (hx : rCh x) (hq : Q (some (.int (rSm x))) M nx) : XC E 130 [.int x] M nx Q := by
  refine XC.run 60 [] ?_
  have hs := rCh_v (rCh_s hx)
  rw [rSm] at hq hs
  by_cases c1 : x < 65
  · rw [if_pos c1] at hq hs
    simp only [n130, t130, ↓xh, ↓xst, ↓xrunE, ↓rG, rL, rSt, updA, List.elem_nil, List.elem_cons, Nat.reduceBEq, Bool.false_eq_true, if_false, if_true, true_and, and_true, true_or, or_true, not_false_eq_true, Nat.reduceAdd, Nat.reduceSub, Nat.reduceLeDiff, Nat.reduceEqDiff, Nat.reduceLT, ↓reduceIte, List.length_cons, List.length_nil, List.set_cons_zero, List.set_cons_succ, Nat.le_refl, Nat.zero_le, Nat.zero_sub, Nat.sub_zero, List.nil_append, List.cons_append, Option.toList_some, Option.toList_none, eq_self, lT c1, hs]
    exact hq
  by_cases c2 : 90 < x
  · rw [if_neg c1, if_pos c2] at hq hs
    simp only [n130, t130, ↓xh, ↓xst, ↓xrunE, ↓rG, rL, rSt, updA, List.elem_nil, List.elem_cons, Nat.reduceBEq, Bool.false_eq_true, if_false, if_true, true_and, and_true, true_or, or_true, not_false_eq_true, Nat.reduceAdd, Nat.reduceSub, Nat.reduceLeDiff, Nat.reduceEqDiff, Nat.reduceLT, ↓reduceIte, List.length_cons, List.length_nil, List.set_cons_zero, List.set_cons_succ, Nat.le_refl, Nat.zero_le, Nat.zero_sub, Nat.sub_zero, List.nil_append, List.cons_append, Option.toList_some, Option.toList_none, eq_self, lF c1, lT c2, hs]
    exact hq
  rw [if_neg c1, if_neg c2] at hq hs
  have e : ((x + 32).toUInt32 % 65536).toInt32 = x + 32 := by
    obtain ⟨n, hn, rfl⟩ := hx
    exact rCh_32 n hn c2
  simp only [n130, t130, ↓xh, ↓xst, ↓xrunE, ↓rG, rL, rSt, updA, List.elem_nil, List.elem_cons, Nat.reduceBEq, Bool.false_eq_true, if_false, if_true, true_and, and_true, true_or, or_true, not_false_eq_true, Nat.reduceAdd, Nat.reduceSub, Nat.reduceLeDiff, Nat.reduceEqDiff, Nat.reduceLT, ↓reduceIte, List.length_cons, List.length_nil, List.set_cons_zero, List.set_cons_succ, Nat.le_refl, Nat.zero_le, Nat.zero_sub, Nat.sub_zero, List.nil_append, List.cons_append, Option.toList_some, Option.toList_none, eq_self, lF c1, lF c2, e, hs]
  exact hq
/-- signs: l letters are left, from k on -/
def rSg (s : rS) : Nat → Nat → Int32 → Int32
  | 0, _, c => c
  | l + 1, k, c => rSg s l (k + 1) (if rSign (s.2 1 k) then c + 1 else c)
set_option maxRecDepth 100000 in
set_option maxHeartbeats 4000000 in
theorem rl115 {E : xE} {M : xM} {m nx a b : Nat} {s : rS} {Q : Option Value → xM → Nat → Prop} (h : rRep M m s) (hb : b ≤ 32) : ∀ l k c, k + l = b → Q (some (.int (rSg s l k c))) M nx →
    XZ E 115 (xZ E 115 Q) 5 [some (.ref m), some (.int (nI a)), some (.int (nI b)), some (.int c), some (.int (nI k))] [] M nx 0 0 := by
  intro l
  induction l with
  | zero =>
    intro k c hk hq
    obtain rfl : k = b := by omega
    refine XZ.runH 60 [5] ?_
    simp only [n115, t115, ↓xh, ↓xst, ↓xrunE, ↓rG, rL, rSt, updA, List.elem_nil, List.elem_cons, Nat.reduceBEq, Bool.false_eq_true, if_false, if_true, true_and, and_true, true_or, or_true, not_false_eq_true, Nat.reduceAdd, Nat.reduceSub, Nat.reduceLeDiff, Nat.reduceEqDiff, Nat.reduceLT, ↓reduceIte, List.length_cons, List.length_nil, List.set_cons_zero, List.set_cons_succ, Nat.le_refl, Nat.zero_le, Nat.zero_sub, Nat.sub_zero, List.nil_append, List.cons_append, Option.toList_some, Option.toList_none, eq_self, nI_le (Nat.le_refl k) (show k < 2 ^ 31 by omega)]
    exact hq
  | succ l ih =>
    intro k c hk hq
    refine XZ.runH 60 [5] ?_
    simp only [n115, n126, t115, ↓xh, ↓xst, ↓xrunE, ↓rG, rL, rSt, updA, List.elem_nil, List.elem_cons, Nat.reduceBEq, Bool.false_eq_true, if_false, if_true, true_and, and_true, true_or, or_true, not_false_eq_true, Nat.reduceAdd, Nat.reduceSub, Nat.reduceLeDiff, Nat.reduceEqDiff, Nat.reduceLT, ↓reduceIte, List.length_cons, List.length_nil, List.set_cons_zero, List.set_cons_succ, Nat.le_refl, Nat.zero_le, Nat.zero_sub, Nat.sub_zero, List.nil_append, List.cons_append, Option.toList_some, Option.toList_none, eq_self, ↓rO1 h, ↓rB h, nI_ge (show k < b by omega) (show b < 2 ^ 31 by omega), nIx (show k < 32 by omega)]
    refine rc126 ?_
    rw [rSg] at hq
    refine XZ.runH 60 [5] ?_
    by_cases c1 : rSign (s.2 1 k) = true
    · simp only [n115, t115, ↓xh, ↓xst, ↓xrunE, ↓rG, rL, rSt, updA, List.elem_nil, List.elem_cons, Nat.reduceBEq, Bool.false_eq_true, if_false, if_true, true_and, and_true, true_or, or_true, not_false_eq_true, Nat.reduceAdd, Nat.reduceSub, Nat.reduceLeDiff, Nat.reduceEqDiff, Nat.reduceLT, ↓reduceIte, List.length_cons, List.length_nil, List.set_cons_zero, List.set_cons_succ, Nat.le_refl, Nat.zero_le, Nat.zero_sub, Nat.sub_zero, List.nil_append, List.cons_append, Option.toList_some, Option.toList_none, eq_self, c1, show ¬ (1 : Int32) = 0 by decide, nI_1]
      rw [if_pos c1] at hq
      exact ih (k + 1) _ (by omega) hq
    · simp only [n115, t115, ↓xh, ↓xst, ↓xrunE, ↓rG, rL, rSt, updA, List.elem_nil, List.elem_cons, Nat.reduceBEq, Bool.false_eq_true, if_false, if_true, true_and, and_true, true_or, or_true, not_false_eq_true, Nat.reduceAdd, Nat.reduceSub, Nat.reduceLeDiff, Nat.reduceEqDiff, Nat.reduceLT, ↓reduceIte, List.length_cons, List.length_nil, List.set_cons_zero, List.set_cons_succ, Nat.le_refl, Nat.zero_le, Nat.zero_sub, Nat.sub_zero, List.nil_append, List.cons_append, Option.toList_some, Option.toList_none, eq_self, c1, nI_1]
      rw [if_neg c1] at hq
      exact ih (k + 1) _ (by omega) hq
set_option maxRecDepth 100000 in
set_option maxHeartbeats 4000000 in
theorem rc115 {E : xE} {M : xM} {m nx a b : Nat} {s : rS} {Q : Option Value → xM → Nat → Prop} (h : rRep M m s) (hb : b ≤ 32) (hab : a ≤ b) (hq : Q (some (.int (rSg s (b - a) a 0))) M nx) : XC E 115 [.ref m, .int (nI a), .int (nI b)] M nx Q := by
  refine XC.run 20 [5] ?_
  simp only [n115, t115, ↓xh, ↓xst, ↓xrunE, ↓rG, rL, rSt, updA, List.elem_nil, List.elem_cons, Nat.reduceBEq, Bool.false_eq_true, if_false, if_true, true_and, and_true, true_or, or_true, not_false_eq_true, Nat.reduceAdd, Nat.reduceSub, Nat.reduceLeDiff, Nat.reduceEqDiff, Nat.reduceLT, ↓reduceIte, List.length_cons, List.length_nil, List.set_cons_zero, List.set_cons_succ, Nat.le_refl, Nat.zero_le, Nat.zero_sub, Nat.sub_zero, List.nil_append, List.cons_append, Option.toList_some, Option.toList_none, eq_self]
  exact rl115 h hb (b - a) a 0 (by omega) hq
def rNm (s : rS) (a b : Nat) : Bool := decide (a < b) && decide (rSg s (b - a) a 0 = 0)
set_option maxRecDepth 100000 in
set_option maxHeartbeats 4000000 in
theorem rc100 {E : xE} {M : xM} {m nx a b : Nat} {s : rS} {Q : Option Value → xM → Nat → Prop} (h : rRep M m s) (hb : b ≤ 32) (ha : a ≤ 64) (hq : Q (some (.int (if rNm s a b then 1 else 0))) M nx) : XC E 100 [.ref m, .int (nI a), .int (nI b)] M nx Q := by
  refine XC.run 60 [] ?_
  by_cases c1 : a < b
  · simp only [n100, n115, t100, ↓xh, ↓xst, ↓xrunE, ↓rG, rL, rSt, updA, List.elem_nil, List.elem_cons, Nat.reduceBEq, Bool.false_eq_true, if_false, if_true, true_and, and_true, true_or, or_true, not_false_eq_true, Nat.reduceAdd, Nat.reduceSub, Nat.reduceLeDiff, Nat.reduceEqDiff, Nat.reduceLT, ↓reduceIte, List.length_cons, List.length_nil, List.set_cons_zero, List.set_cons_succ, Nat.le_refl, Nat.zero_le, Nat.zero_sub, Nat.sub_zero, List.nil_append, List.cons_append, Option.toList_some, Option.toList_none, eq_self, ↓rO1 h, nI_ge c1 (show b < 2 ^ 31 by omega)]
    refine rc115 h hb (by omega) ?_
    refine XZ.runH 60 [] ?_
    by_cases c2 : rSg s (b - a) a 0 = 0
    · simp only [n100, t100, ↓xh, ↓xst, ↓xrunE, ↓rG, rL, rSt, updA, List.elem_nil, List.elem_cons, Nat.reduceBEq, Bool.false_eq_true, if_false, if_true, true_and, and_true, true_or, or_true, not_false_eq_true, Nat.reduceAdd, Nat.reduceSub, Nat.reduceLeDiff, Nat.reduceEqDiff, Nat.reduceLT, ↓reduceIte, List.length_cons, List.length_nil, List.set_cons_zero, List.set_cons_succ, Nat.le_refl, Nat.zero_le, Nat.zero_sub, Nat.sub_zero, List.nil_append, List.cons_append, Option.toList_some, Option.toList_none, eq_self, c2]
      simpa [rNm, c1, c2] using hq
    · simp only [n100, t100, ↓xh, ↓xst, ↓xrunE, ↓rG, rL, rSt, updA, List.elem_nil, List.elem_cons, Nat.reduceBEq, Bool.false_eq_true, if_false, if_true, true_and, and_true, true_or, or_true, not_false_eq_true, Nat.reduceAdd, Nat.reduceSub, Nat.reduceLeDiff, Nat.reduceEqDiff, Nat.reduceLT, ↓reduceIte, List.length_cons, List.length_nil, List.set_cons_zero, List.set_cons_succ, Nat.le_refl, Nat.zero_le, Nat.zero_sub, Nat.sub_zero, List.nil_append, List.cons_append, Option.toList_some, Option.toList_none, eq_self, c2]
      simpa [rNm, c1, c2] using hq
  · simp only [n100, t100, ↓xh, ↓xst, ↓xrunE, ↓rG, rL, rSt, updA, List.elem_nil, List.elem_cons, Nat.reduceBEq, Bool.false_eq_true, if_false, if_true, true_and, and_true, true_or, or_true, not_false_eq_true, Nat.reduceAdd, Nat.reduceSub, Nat.reduceLeDiff, Nat.reduceEqDiff, Nat.reduceLT, ↓reduceIte, List.length_cons, List.length_nil, List.set_cons_zero, List.set_cons_succ, Nat.le_refl, Nat.zero_le, Nat.zero_sub, Nat.sub_zero, List.nil_append, List.cons_append, Option.toList_some, Option.toList_none, eq_self, nI_le (show b ≤ a by omega) (show a < 2 ^ 31 by omega)]
    simpa [rNm, c1] using hq
/-- the first place of a letter: l are left, from k on -/
def rPl (s : rS) (x : Int32) : Nat → Nat → Option Nat
  | 0, _ => none
  | l + 1, k => if s.2 1 k = x then some k else rPl s x l (k + 1)
theorem rPl_lt (s : rS) (x : Int32) : ∀ l k j, rPl s x l k = some j → k ≤ j ∧ j < k + l
  | 0, _, _, h => by cases h
  | l + 1, k, j, h => by
    rw [rPl] at h
    split at h
    · cases h; omega
    · have := rPl_lt s x l (k + 1) j h; omega
set_option maxRecDepth 100000 in
set_option maxHeartbeats 4000000 in
theorem rl117 {E : xE} {M : xM} {m nx Z : Nat} {x : Int32} {s : rS} {Q : Option Value → xM → Nat → Prop} (h : rRep M m s) (hZ : Z ≤ 32) (h4 : s.1 4 = nI Z) : ∀ l k, k + l = Z → Q (some (.int ((rPl s x l k).elim (-1) nI))) M nx →
    XZ E 117 (xZ E 117 Q) 2 [some (.ref m), some (.int x), some (.int (nI k))] [] M nx 0 0 := by
  intro l
  induction l with
  | zero =>
    intro k hk hq
    obtain rfl : k = Z := by omega
    refine XZ.runH 60 [2] ?_
    simp only [n117, t117, ↓xh, ↓xst, ↓xrunE, ↓rG, rL, rSt, updA, List.elem_nil, List.elem_cons, Nat.reduceBEq, Bool.false_eq_true, if_false, if_true, true_and, and_true, true_or, or_true, not_false_eq_true, Nat.reduceAdd, Nat.reduceSub, Nat.reduceLeDiff, Nat.reduceEqDiff, Nat.reduceLT, ↓reduceIte, List.length_cons, List.length_nil, List.set_cons_zero, List.set_cons_succ, Nat.le_refl, Nat.zero_le, Nat.zero_sub, Nat.sub_zero, List.nil_append, List.cons_append, Option.toList_some, Option.toList_none, eq_self, ↓rO1 h, h4, nI_le (Nat.le_refl k) (show k < 2 ^ 31 by omega)]
    exact hq
  | succ l ih =>
    intro k hk hq
    rw [rPl] at hq
    refine XZ.runH 60 [2] ?_
    by_cases c1 : s.2 1 k = x
    · simp only [n117, t117, ↓xh, ↓xst, ↓xrunE, ↓rG, rL, rSt, updA, List.elem_nil, List.elem_cons, Nat.reduceBEq, Bool.false_eq_true, if_false, if_true, true_and, and_true, true_or, or_true, not_false_eq_true, Nat.reduceAdd, Nat.reduceSub, Nat.reduceLeDiff, Nat.reduceEqDiff, Nat.reduceLT, ↓reduceIte, List.length_cons, List.length_nil, List.set_cons_zero, List.set_cons_succ, Nat.le_refl, Nat.zero_le, Nat.zero_sub, Nat.sub_zero, List.nil_append, List.cons_append, Option.toList_some, Option.toList_none, eq_self, ↓rO1 h, ↓rB h, h4, nI_ge (show k < Z by omega) (show Z < 2 ^ 31 by omega), nIx (show k < 32 by omega), c1]
      rw [if_pos c1] at hq
      exact hq
    · simp only [n117, t117, ↓xh, ↓xst, ↓xrunE, ↓rG, rL, rSt, updA, List.elem_nil, List.elem_cons, Nat.reduceBEq, Bool.false_eq_true, if_false, if_true, true_and, and_true, true_or, or_true, not_false_eq_true, Nat.reduceAdd, Nat.reduceSub, Nat.reduceLeDiff, Nat.reduceEqDiff, Nat.reduceLT, ↓reduceIte, List.length_cons, List.length_nil, List.set_cons_zero, List.set_cons_succ, Nat.le_refl, Nat.zero_le, Nat.zero_sub, Nat.sub_zero, List.nil_append, List.cons_append, Option.toList_some, Option.toList_none, eq_self, ↓rO1 h, ↓rB h, h4, nI_ge (show k < Z by omega) (show Z < 2 ^ 31 by omega), nIx (show k < 32 by omega), c1, nI_1]
      rw [if_neg c1] at hq
      exact ih (k + 1) (by omega) hq
set_option maxRecDepth 100000 in
set_option maxHeartbeats 4000000 in
theorem rc117 {E : xE} {M : xM} {m nx Z : Nat} {x : Int32} {s : rS} {Q : Option Value → xM → Nat → Prop} (h : rRep M m s) (hZ : Z ≤ 32) (h4 : s.1 4 = nI Z) (hq : Q (some (.int ((rPl s x Z 0).elim (-1) nI))) M nx) : XC E 117 [.ref m, .int x] M nx Q := by
  refine XC.run 20 [2] ?_
  simp only [n117, t117, ↓xh, ↓xst, ↓xrunE, ↓rG, rL, rSt, updA, List.elem_nil, List.elem_cons, Nat.reduceBEq, Bool.false_eq_true, if_false, if_true, true_and, and_true, true_or, or_true, not_false_eq_true, Nat.reduceAdd, Nat.reduceSub, Nat.reduceLeDiff, Nat.reduceEqDiff, Nat.reduceLT, ↓reduceIte, List.length_cons, List.length_nil, List.set_cons_zero, List.set_cons_succ, Nat.le_refl, Nat.zero_le, Nat.zero_sub, Nat.sub_zero, List.nil_append, List.cons_append, Option.toList_some, Option.toList_none, eq_self]
  exact rl117 h hZ h4 Z 0 (by omega) hq
set_option maxRecDepth 100000 in
set_option maxHeartbeats 4000000 in
theorem rl129 {E : xE} {M : xM} {m nx a b : Nat} {s : rS} {Q : Option Value → xM → Nat → Prop} (h : rRep M m s) (hb : b ≤ 32) : ∀ l k, k + l = b → Q (some (.int ((rPl s 126 l k).elim (-1) nI))) M nx →
    XZ E 129 (xZ E 129 Q) 2 [some (.ref m), some (.int (nI a)), some (.int (nI b)), some (.int (nI k))] [] M nx 0 0 := by
  intro l
  induction l with
  | zero =>
    intro k hk hq
    obtain rfl : k = b := by omega
    refine XZ.runH 60 [2] ?_
    simp only [n129, t129, ↓xh, ↓xst, ↓xrunE, ↓rG, rL, rSt, updA, List.elem_nil, List.elem_cons, Nat.reduceBEq, Bool.false_eq_true, if_false, if_true, true_and, and_true, true_or, or_true, not_false_eq_true, Nat.reduceAdd, Nat.reduceSub, Nat.reduceLeDiff, Nat.reduceEqDiff, Nat.reduceLT, ↓reduceIte, List.length_cons, List.length_nil, List.set_cons_zero, List.set_cons_succ, Nat.le_refl, Nat.zero_le, Nat.zero_sub, Nat.sub_zero, List.nil_append, List.cons_append, Option.toList_some, Option.toList_none, eq_self, nI_le (Nat.le_refl k) (show k < 2 ^ 31 by omega)]
    exact hq
  | succ l ih =>
    intro k hk hq
    rw [rPl] at hq
    refine XZ.runH 60 [2] ?_
    by_cases c1 : s.2 1 k = 126
    · simp only [n129, t129, ↓xh, ↓xst, ↓xrunE, ↓rG, rL, rSt, updA, List.elem_nil, List.elem_cons, Nat.reduceBEq, Bool.false_eq_true, if_false, if_true, true_and, and_true, true_or, or_true, not_false_eq_true, Nat.reduceAdd, Nat.reduceSub, Nat.reduceLeDiff, Nat.reduceEqDiff, Nat.reduceLT, ↓reduceIte, List.length_cons, List.length_nil, List.set_cons_zero, List.set_cons_succ, Nat.le_refl, Nat.zero_le, Nat.zero_sub, Nat.sub_zero, List.nil_append, List.cons_append, Option.toList_some, Option.toList_none, eq_self, ↓rO1 h, ↓rB h, nI_ge (show k < b by omega) (show b < 2 ^ 31 by omega), nIx (show k < 32 by omega), c1]
      rw [if_pos c1] at hq
      exact hq
    · simp only [n129, t129, ↓xh, ↓xst, ↓xrunE, ↓rG, rL, rSt, updA, List.elem_nil, List.elem_cons, Nat.reduceBEq, Bool.false_eq_true, if_false, if_true, true_and, and_true, true_or, or_true, not_false_eq_true, Nat.reduceAdd, Nat.reduceSub, Nat.reduceLeDiff, Nat.reduceEqDiff, Nat.reduceLT, ↓reduceIte, List.length_cons, List.length_nil, List.set_cons_zero, List.set_cons_succ, Nat.le_refl, Nat.zero_le, Nat.zero_sub, Nat.sub_zero, List.nil_append, List.cons_append, Option.toList_some, Option.toList_none, eq_self, ↓rO1 h, ↓rB h, nI_ge (show k < b by omega) (show b < 2 ^ 31 by omega), nIx (show k < 32 by omega), c1, nI_1]
      rw [if_neg c1] at hq
      exact ih (k + 1) (by omega) hq
set_option maxRecDepth 100000 in
set_option maxHeartbeats 4000000 in
theorem rc129 {E : xE} {M : xM} {m nx a b : Nat} {s : rS} {Q : Option Value → xM → Nat → Prop} (h : rRep M m s) (hb : b ≤ 32) (hab : a ≤ b) (hq : Q (some (.int ((rPl s 126 (b - a) a).elim (-1) nI))) M nx) : XC E 129 [.ref m, .int (nI a), .int (nI b)] M nx Q := by
  refine XC.run 20 [2] ?_
  simp only [n129, t129, ↓xh, ↓xst, ↓xrunE, ↓rG, rL, rSt, updA, List.elem_nil, List.elem_cons, Nat.reduceBEq, Bool.false_eq_true, if_false, if_true, true_and, and_true, true_or, or_true, not_false_eq_true, Nat.reduceAdd, Nat.reduceSub, Nat.reduceLeDiff, Nat.reduceEqDiff, Nat.reduceLT, ↓reduceIte, List.length_cons, List.length_nil, List.set_cons_zero, List.set_cons_succ, Nat.le_refl, Nat.zero_le, Nat.zero_sub, Nat.sub_zero, List.nil_append, List.cons_append, Option.toList_some, Option.toList_none, eq_self]
  exact rl129 h hb (b - a) a (by omega) hq
/-- a mask -/
def rMask (s : rS) (a b : Nat) : Bool := rNm s a b || (decide (a < b) && decide (rSg s (b - a) a 0 = 1) && ((rPl s 126 (b - a) a).isSome || (decide (b = a + 1) && decide (s.2 1 a = 61))))
set_option maxRecDepth 100000 in
set_option maxHeartbeats 4000000 in
theorem rc120 {E : xE} {M : xM} {m nx a b : Nat} {s : rS} {Q : Option Value → xM → Nat → Prop} (h : rRep M m s) (hb : b ≤ 32) (ha : a ≤ 64) (hq : Q (some (.int (if rMask s a b then 1 else 0))) M nx) : XC E 120 [.ref m, .int (nI a), .int (nI b)] M nx Q := by
  refine XC.run 60 [] ?_
  simp only [n120, n100, t120, ↓xh, ↓xst, ↓xrunE, ↓rG, rL, rSt, updA, List.elem_nil, List.elem_cons, Nat.reduceBEq, Bool.false_eq_true, if_false, if_true, true_and, and_true, true_or, or_true, not_false_eq_true, Nat.reduceAdd, Nat.reduceSub, Nat.reduceLeDiff, Nat.reduceEqDiff, Nat.reduceLT, ↓reduceIte, List.length_cons, List.length_nil, List.set_cons_zero, List.set_cons_succ, Nat.le_refl, Nat.zero_le, Nat.zero_sub, Nat.sub_zero, List.nil_append, List.cons_append, Option.toList_some, Option.toList_none, eq_self, ↓rO1 h]
  refine rc100 h hb ha ?_
  rw [rMask] at hq
  refine XZ.runH 60 [] ?_
  by_cases c1 : rNm s a b = true
  · simp only [n120, t120, ↓xh, ↓xst, ↓xrunE, ↓rG, rL, rSt, updA, List.elem_nil, List.elem_cons, Nat.reduceBEq, Bool.false_eq_true, if_false, if_true, true_and, and_true, true_or, or_true, not_false_eq_true, Nat.reduceAdd, Nat.reduceSub, Nat.reduceLeDiff, Nat.reduceEqDiff, Nat.reduceLT, ↓reduceIte, List.length_cons, List.length_nil, List.set_cons_zero, List.set_cons_succ, Nat.le_refl, Nat.zero_le, Nat.zero_sub, Nat.sub_zero, List.nil_append, List.cons_append, Option.toList_some, Option.toList_none, eq_self, c1, show ¬ (1 : Int32) = 0 by decide]
    simpa [c1] using hq
  by_cases c2 : a < b
  rotate_left
  · simp only [n120, t120, ↓xh, ↓xst, ↓xrunE, ↓rG, rL, rSt, updA, List.elem_nil, List.elem_cons, Nat.reduceBEq, Bool.false_eq_true, if_false, if_true, true_and, and_true, true_or, or_true, not_false_eq_true, Nat.reduceAdd, Nat.reduceSub, Nat.reduceLeDiff, Nat.reduceEqDiff, Nat.reduceLT, ↓reduceIte, List.length_cons, List.length_nil, List.set_cons_zero, List.set_cons_succ, Nat.le_refl, Nat.zero_le, Nat.zero_sub, Nat.sub_zero, List.nil_append, List.cons_append, Option.toList_some, Option.toList_none, eq_self, c1, nI_le (show b ≤ a by omega) (show a < 2 ^ 31 by omega)]
    simpa [c1, c2] using hq
  simp only [n120, n115, t120, ↓xh, ↓xst, ↓xrunE, ↓rG, rL, rSt, updA, List.elem_nil, List.elem_cons, Nat.reduceBEq, Bool.false_eq_true, if_false, if_true, true_and, and_true, true_or, or_true, not_false_eq_true, Nat.reduceAdd, Nat.reduceSub, Nat.reduceLeDiff, Nat.reduceEqDiff, Nat.reduceLT, ↓reduceIte, List.length_cons, List.length_nil, List.set_cons_zero, List.set_cons_succ, Nat.le_refl, Nat.zero_le, Nat.zero_sub, Nat.sub_zero, List.nil_append, List.cons_append, Option.toList_some, Option.toList_none, eq_self, c1, nI_ge c2 (show b < 2 ^ 31 by omega), ↓rO1 h]
  refine rc115 h hb (by omega) ?_
  refine XZ.runH 60 [] ?_
  by_cases c3 : rSg s (b - a) a 0 = 1
  rotate_left
  · simp only [n120, t120, ↓xh, ↓xst, ↓xrunE, ↓rG, rL, rSt, updA, List.elem_nil, List.elem_cons, Nat.reduceBEq, Bool.false_eq_true, if_false, if_true, true_and, and_true, true_or, or_true, not_false_eq_true, Nat.reduceAdd, Nat.reduceSub, Nat.reduceLeDiff, Nat.reduceEqDiff, Nat.reduceLT, ↓reduceIte, List.length_cons, List.length_nil, List.set_cons_zero, List.set_cons_succ, Nat.le_refl, Nat.zero_le, Nat.zero_sub, Nat.sub_zero, List.nil_append, List.cons_append, Option.toList_some, Option.toList_none, eq_self, c3]
    simpa [c1, c3] using hq
  simp only [n120, n129, t120, ↓xh, ↓xst, ↓xrunE, ↓rG, rL, rSt, updA, List.elem_nil, List.elem_cons, Nat.reduceBEq, Bool.false_eq_true, if_false, if_true, true_and, and_true, true_or, or_true, not_false_eq_true, Nat.reduceAdd, Nat.reduceSub, Nat.reduceLeDiff, Nat.reduceEqDiff, Nat.reduceLT, ↓reduceIte, List.length_cons, List.length_nil, List.set_cons_zero, List.set_cons_succ, Nat.le_refl, Nat.zero_le, Nat.zero_sub, Nat.sub_zero, List.nil_append, List.cons_append, Option.toList_some, Option.toList_none, eq_self, c3, ↓rO1 h]
  refine rc129 h hb (by omega) ?_
  refine XZ.runH 60 [] ?_
  cases hp : rPl s 126 (b - a) a with
  | some j =>
    have := rPl_lt _ _ _ _ _ hp
    simp only [n120, t120, ↓xh, ↓xst, ↓xrunE, ↓rG, rL, rSt, updA, List.elem_nil, List.elem_cons, Nat.reduceBEq, Bool.false_eq_true, if_false, if_true, true_and, and_true, true_or, or_true, not_false_eq_true, Nat.reduceAdd, Nat.reduceSub, Nat.reduceLeDiff, Nat.reduceEqDiff, Nat.reduceLT, ↓reduceIte, List.length_cons, List.length_nil, List.set_cons_zero, List.set_cons_succ, Nat.le_refl, Nat.zero_le, Nat.zero_sub, Nat.sub_zero, List.nil_append, List.cons_append, Option.toList_some, Option.toList_none, eq_self, Option.elim, lF (nI_pos (show j < 2 ^ 31 by omega))]
    simpa [c1, c2, c3, hp] using hq
  | none =>
    by_cases c4 : b = a + 1
    · subst c4
      have e1 : a + 1 - a = 1 := by omega
      rw [e1] at c3 hp
      by_cases c5 : s.2 1 a = 61
      · simp only [n120, t120, ↓xh, ↓xst, ↓xrunE, ↓rG, rL, rSt, updA, List.elem_nil, List.elem_cons, Nat.reduceBEq, Bool.false_eq_true, if_false, if_true, true_and, and_true, true_or, or_true, not_false_eq_true, Nat.reduceAdd, Nat.reduceSub, Nat.reduceLeDiff, Nat.reduceEqDiff, Nat.reduceLT, ↓reduceIte, List.length_cons, List.length_nil, List.set_cons_zero, List.set_cons_succ, Nat.le_refl, Nat.zero_le, Nat.zero_sub, Nat.sub_zero, List.nil_append, List.cons_append, Option.toList_some, Option.toList_none, eq_self, Option.elim, show ¬ (0 : Int32) ≤ -1 by decide, show (-1 : Int32) < 0 by decide, nI_1, ↓rO1 h, ↓rB h, nIx (show a < 32 by omega), c5]
        simpa [c1, c3, hp, c5] using hq
      · simp only [n120, t120, ↓xh, ↓xst, ↓xrunE, ↓rG, rL, rSt, updA, List.elem_nil, List.elem_cons, Nat.reduceBEq, Bool.false_eq_true, if_false, if_true, true_and, and_true, true_or, or_true, not_false_eq_true, Nat.reduceAdd, Nat.reduceSub, Nat.reduceLeDiff, Nat.reduceEqDiff, Nat.reduceLT, ↓reduceIte, List.length_cons, List.length_nil, List.set_cons_zero, List.set_cons_succ, Nat.le_refl, Nat.zero_le, Nat.zero_sub, Nat.sub_zero, List.nil_append, List.cons_append, Option.toList_some, Option.toList_none, eq_self, Option.elim, show ¬ (0 : Int32) ≤ -1 by decide, show (-1 : Int32) < 0 by decide, nI_1, ↓rO1 h, ↓rB h, nIx (show a < 32 by omega), c5]
        simpa [c1, c3, hp, c5] using hq
    · have n4 : ¬ nI b = nI (a + 1) := fun z => c4 (by rw [← nI_clamp (show b < 2 ^ 31 by omega), z, nI_clamp (by omega)])
      simp only [n120, t120, ↓xh, ↓xst, ↓xrunE, ↓rG, rL, rSt, updA, List.elem_nil, List.elem_cons, Nat.reduceBEq, Bool.false_eq_true, if_false, if_true, true_and, and_true, true_or, or_true, not_false_eq_true, Nat.reduceAdd, Nat.reduceSub, Nat.reduceLeDiff, Nat.reduceEqDiff, Nat.reduceLT, ↓reduceIte, List.length_cons, List.length_nil, List.set_cons_zero, List.set_cons_succ, Nat.le_refl, Nat.zero_le, Nat.zero_sub, Nat.sub_zero, List.nil_append, List.cons_append, Option.toList_some, Option.toList_none, eq_self, Option.elim, show ¬ (0 : Int32) ≤ -1 by decide, show (-1 : Int32) < 0 by decide, nI_1, n4]
      simpa [c1, c3, hp, c4] using hq
theorem nI_subr (x a : Nat) : nI (x + a) - nI a = nI x := by
  rw [← nI_add]; exact Int32.add_sub_cancel _ _
/-- the letters that are kept -/
def rKpF (s : rS) (n a j k : Nat) : Int32 := if j = 2 then s.2 1 (a + (k - 32 * n)) else s.2 j k
def rKeep (s : rS) (n a d : Nat) : rS := (s.1, up2 (rPt (rKpF s n a) s (32 * n) d).2 3 n (nI d))
set_option maxRecDepth 100000 in
set_option maxHeartbeats 4000000 in
theorem rl101 {E : xE} {M0 : xM} {m nx n a d : Nat} {s : rS} {Q : Option Value → xM → Nat → Prop} (hb : xb E ≤ m) (hn : n < 40) (had : a + d ≤ 32) (hch : ∀ k, k < a + d → rCh (s.2 1 k)) (hq : ∀ M', rR M0 M' m (rKeep s n a d) → Q none M' nx) : ∀ l t M, t + l = d → rR M0 M m (rPt (rKpF s n a) s (32 * n) t) →
    XZ E 101 (xZ E 101 Q) 3 [some (.ref m), some (.int (nI n)), some (.int (nI a)), some (.int (nI (a + d))), some (.int (nI (t + a)))] [] M nx 0 0 := by
  intro l
  induction l with
  | zero =>
    intro t M ht h
    obtain rfl : t = d := by omega
    refine XZ.runH 60 [3, 30, 45] ?_
    simp only [n101, t101, ↓xh, ↓xst, ↓xrunE, ↓rG, rL, rSt, updA, List.elem_nil, List.elem_cons, Nat.reduceBEq, Bool.false_eq_true, if_false, if_true, true_and, and_true, true_or, or_true, not_false_eq_true, Nat.reduceAdd, Nat.reduceSub, Nat.reduceLeDiff, Nat.reduceEqDiff, Nat.reduceLT, ↓reduceIte, List.length_cons, List.length_nil, List.set_cons_zero, List.set_cons_succ, Nat.le_refl, Nat.zero_le, Nat.zero_sub, Nat.sub_zero, List.nil_append, List.cons_append, Option.toList_some, Option.toList_none, eq_self, ↓rO1 h.1, ↓rB h.1, nI_le (Nat.le_refl (t + a)) (show t + a < 2 ^ 31 by omega), nIx hn, Nat.add_comm a t, nI_subr, xn0, xbj hb]
    refine XZ.abs (h.arr 3 _ _ (by decide) (by decide)) (fun M1 h1 => ?_)
    refine XZ.runH 60 [] ?_
    simp only [n101, t101, ↓xh, ↓xst, ↓xrunE, ↓rG, rL, rSt, updA, List.elem_nil, List.elem_cons, Nat.reduceBEq, Bool.false_eq_true, if_false, if_true, true_and, and_true, true_or, or_true, not_false_eq_true, Nat.reduceAdd, Nat.reduceSub, Nat.reduceLeDiff, Nat.reduceEqDiff, Nat.reduceLT, ↓reduceIte, List.length_cons, List.length_nil, List.set_cons_zero, List.set_cons_succ, Nat.le_refl, Nat.zero_le, Nat.zero_sub, Nat.sub_zero, List.nil_append, List.cons_append, Option.toList_some, Option.toList_none, eq_self]
    exact hq M1 h1
  | succ l ih =>
    intro t M ht h
    have e : ∀ j, (rPt (rKpF s n a) s (32 * n) t).2 j (32 * n + t) = s.2 j (32 * n + t) := fun j => rPt_at _ _ _ _ _
    have e1 : (rPt (rKpF s n a) s (32 * n) t).2 1 = s.2 1 := by funext k; simp [rPt, rKpF]
    have ex : nI (32 * n + (t + a)) - nI a = nI (32 * n + t) := by rw [← Nat.add_assoc, nI_subr]
    have e3 : xnar 3 (s.2 1 (t + a)) = s.2 1 (t + a) := by
      obtain ⟨c, hc, ec⟩ := hch (t + a) (by omega)
      rw [ec]
      exact rCh_n c hc
    refine XZ.runH 60 [3, 30, 45] ?_
    simp only [n101, t101, ↓xh, ↓xst, ↓xrunE, ↓rG, rL, rSt, updA, List.elem_nil, List.elem_cons, Nat.reduceBEq, Bool.false_eq_true, if_false, if_true, true_and, and_true, true_or, or_true, not_false_eq_true, Nat.reduceAdd, Nat.reduceSub, Nat.reduceLeDiff, Nat.reduceEqDiff, Nat.reduceLT, ↓reduceIte, List.length_cons, List.length_nil, List.set_cons_zero, List.set_cons_succ, Nat.le_refl, Nat.zero_le, Nat.zero_sub, Nat.sub_zero, List.nil_append, List.cons_append, Option.toList_some, Option.toList_none, eq_self, ↓rO1 h.1, ↓rB h.1, nI_ge (show t + a < a + d by omega) (show a + d < 2 ^ 31 by omega), nIm32, nI_add, ex, nIx (show 32 * n + t < 1280 by omega), nIx (show t + a < 32 by omega), e1, e3, xbj hb]
    refine XZ.abs (h.arr 2 _ _ (by decide) (by decide)) (fun M1 h1 => ?_)
    refine XZ.runH 60 [3] ?_
    simp only [n101, t101, ↓xh, ↓xst, ↓xrunE, ↓rG, rL, rSt, updA, List.elem_nil, List.elem_cons, Nat.reduceBEq, Bool.false_eq_true, if_false, if_true, true_and, and_true, true_or, or_true, not_false_eq_true, Nat.reduceAdd, Nat.reduceSub, Nat.reduceLeDiff, Nat.reduceEqDiff, Nat.reduceLT, ↓reduceIte, List.length_cons, List.length_nil, List.set_cons_zero, List.set_cons_succ, Nat.le_refl, Nat.zero_le, Nat.zero_sub, Nat.sub_zero, List.nil_append, List.cons_append, Option.toList_some, Option.toList_none, eq_self, nI_1]
    rw [show t + a + 1 = t + 1 + a by omega]
    refine ih (t + 1) M1 (by omega) (h1.to (rPt_step (s := s) (b := 32 * n) (c := t) (fun j => ?_) (fun j i hi => ?_)))
    · simp only [up2_at, e]
      by_cases z : j = 2
      · subst z; simp [rKpF, show 32 * n + t - 32 * n = t by omega, Nat.add_comm]
      · simp [z, rKpF]
    · rw [up2_off (by omega)]
set_option maxRecDepth 100000 in
set_option maxHeartbeats 4000000 in
theorem rc101 {E : xE} {M0 M : xM} {m nx n a d : Nat} {s : rS} {Q : Option Value → xM → Nat → Prop} (hb : xb E ≤ m) (h : rR M0 M m s) (hn : n < 40) (had : a + d ≤ 32) (hch : ∀ k, k < a + d → rCh (s.2 1 k)) (hq : ∀ M', rR M0 M' m (rKeep s n a d) → Q none M' nx) : XC E 101 [.ref m, .int (nI n), .int (nI a), .int (nI (a + d))] M nx Q := by
  refine XC.run 20 [3] ?_
  simp only [n101, t101, ↓xh, ↓xst, ↓xrunE, ↓rG, rL, rSt, updA, List.elem_nil, List.elem_cons, Nat.reduceBEq, Bool.false_eq_true, if_false, if_true, true_and, and_true, true_or, or_true, not_false_eq_true, Nat.reduceAdd, Nat.reduceSub, Nat.reduceLeDiff, Nat.reduceEqDiff, Nat.reduceLT, ↓reduceIte, List.length_cons, List.length_nil, List.set_cons_zero, List.set_cons_succ, Nat.le_refl, Nat.zero_le, Nat.zero_sub, Nat.sub_zero, List.nil_append, List.cons_append, Option.toList_some, Option.toList_none, eq_self]
  have := rl101 hb hn had hch hq d 0 M (by omega) (h.to (rPt_0 _ _ _).symm)
  rwa [Nat.zero_add] at this
/-- a letter written -/
def rWrite (s : rS) (Z : Nat) (x : Int32) : Int32 × rS := if x < 32 ∨ 126 < x ∨ ¬ Z < 32 then (0, s) else (1, (upd s.1 4 (nI (Z + 1)), up2 s.2 1 Z x))
theorem ivC {x : Int32} (h1 : ¬ x < 32) (h2 : ¬ 126 < x) : rCh x := by
  have h0 : ¬ x < 0 := by intro z; apply h1; rw [Int32.lt_iff_toInt_lt] at *; have e0 : (0 : Int32).toInt = 0 := rfl; have e1 : (32 : Int32).toInt = 32 := rfl; omega
  have h9 : ¬ nI 128 ≤ x := by intro z; apply h2; rw [Int32.le_iff_toInt_le] at z; rw [Int32.lt_iff_toInt_lt]; have e0 : (nI 128).toInt = 128 := rfl; have e1 : (126 : Int32).toInt = 126 := rfl; omega
  exact nIv h0 h9 (by decide)
set_option maxRecDepth 100000 in
set_option maxHeartbeats 4000000 in
theorem rc80 {E : xE} {M0 M : xM} {m nx Z : Nat} {s : rS} {x : Int32} {Q : Option Value → xM → Nat → Prop} (hb : xb E ≤ m) (h : rR M0 M m s) (hZ : Z ≤ 32) (h4 : s.1 4 = nI Z) (hq : ∀ M', rR M0 M' m (rWrite s Z x).2 → Q (some (.int (rWrite s Z x).1)) M' nx) : XC E 80 [.ref m, .int x] M nx Q := by
  refine XC.run 60 [33, 43] ?_
  by_cases c1 : x < 32
  · simp only [n80, t80, ↓xh, ↓xst, ↓xrunE, ↓rG, rL, rSt, updA, List.elem_nil, List.elem_cons, Nat.reduceBEq, Bool.false_eq_true, if_false, if_true, true_and, and_true, true_or, or_true, not_false_eq_true, Nat.reduceAdd, Nat.reduceSub, Nat.reduceLeDiff, Nat.reduceEqDiff, Nat.reduceLT, ↓reduceIte, List.length_cons, List.length_nil, List.set_cons_zero, List.set_cons_succ, Nat.le_refl, Nat.zero_le, Nat.zero_sub, Nat.sub_zero, List.nil_append, List.cons_append, Option.toList_some, Option.toList_none, eq_self, lT c1]
    rw [rWrite, if_pos (Or.inl c1)] at hq
    exact hq M h
  by_cases c2 : 126 < x
  · simp only [n80, t80, ↓xh, ↓xst, ↓xrunE, ↓rG, rL, rSt, updA, List.elem_nil, List.elem_cons, Nat.reduceBEq, Bool.false_eq_true, if_false, if_true, true_and, and_true, true_or, or_true, not_false_eq_true, Nat.reduceAdd, Nat.reduceSub, Nat.reduceLeDiff, Nat.reduceEqDiff, Nat.reduceLT, ↓reduceIte, List.length_cons, List.length_nil, List.set_cons_zero, List.set_cons_succ, Nat.le_refl, Nat.zero_le, Nat.zero_sub, Nat.sub_zero, List.nil_append, List.cons_append, Option.toList_some, Option.toList_none, eq_self, lF c1, lT c2]
    rw [rWrite, if_pos (Or.inr (Or.inl c2))] at hq
    exact hq M h
  by_cases c3 : Z < 32
  · have l3 : nI Z < 32 := k2_lt (nI_ge c3 (by decide))
    have e3 : xnar 3 x = x := by
      obtain ⟨c, hc, ec⟩ := ivC c1 c2
      rw [ec]
      exact rCh_n c hc
    simp only [n80, t80, ↓xh, ↓xst, ↓xrunE, ↓rG, rL, rSt, updA, List.elem_nil, List.elem_cons, Nat.reduceBEq, Bool.false_eq_true, if_false, if_true, true_and, and_true, true_or, or_true, not_false_eq_true, Nat.reduceAdd, Nat.reduceSub, Nat.reduceLeDiff, Nat.reduceEqDiff, Nat.reduceLT, ↓reduceIte, List.length_cons, List.length_nil, List.set_cons_zero, List.set_cons_succ, Nat.le_refl, Nat.zero_le, Nat.zero_sub, Nat.sub_zero, List.nil_append, List.cons_append, Option.toList_some, Option.toList_none, eq_self, lF c1, lF c2, ↓rO1 h.1, ↓rB h.1, h4, lT l3, nIx c3, e3, xbj hb]
    rw [rWrite, if_neg (by simp [c1, c2, c3])] at hq
    refine XZ.abs (h.arr 1 _ _ (by decide) (by decide)) (fun M1 h1 => ?_)
    refine XZ.runH 60 [33, 43] ?_
    simp only [n80, t80, ↓xh, ↓xst, ↓xrunE, ↓rG, rL, rSt, updA, List.elem_nil, List.elem_cons, Nat.reduceBEq, Bool.false_eq_true, if_false, if_true, true_and, and_true, true_or, or_true, not_false_eq_true, Nat.reduceAdd, Nat.reduceSub, Nat.reduceLeDiff, Nat.reduceEqDiff, Nat.reduceLT, ↓reduceIte, List.length_cons, List.length_nil, List.set_cons_zero, List.set_cons_succ, Nat.le_refl, Nat.zero_le, Nat.zero_sub, Nat.sub_zero, List.nil_append, List.cons_append, Option.toList_some, Option.toList_none, eq_self, ↓rO1 h1.1, h4, nI_1, hb]
    refine XZ.abs h1.fl (fun M2 h2 => ?_)
    refine XZ.runH 60 [] ?_
    simp only [n80, t80, ↓xh, ↓xst, ↓xrunE, ↓rG, rL, rSt, updA, List.elem_nil, List.elem_cons, Nat.reduceBEq, Bool.false_eq_true, if_false, if_true, true_and, and_true, true_or, or_true, not_false_eq_true, Nat.reduceAdd, Nat.reduceSub, Nat.reduceLeDiff, Nat.reduceEqDiff, Nat.reduceLT, ↓reduceIte, List.length_cons, List.length_nil, List.set_cons_zero, List.set_cons_succ, Nat.le_refl, Nat.zero_le, Nat.zero_sub, Nat.sub_zero, List.nil_append, List.cons_append, Option.toList_some, Option.toList_none, eq_self]
    exact hq M2 h2
  · obtain rfl : Z = 32 := by omega
    simp only [n80, t80, ↓xh, ↓xst, ↓xrunE, ↓rG, rL, rSt, updA, List.elem_nil, List.elem_cons, Nat.reduceBEq, Bool.false_eq_true, if_false, if_true, true_and, and_true, true_or, or_true, not_false_eq_true, Nat.reduceAdd, Nat.reduceSub, Nat.reduceLeDiff, Nat.reduceEqDiff, Nat.reduceLT, ↓reduceIte, List.length_cons, List.length_nil, List.set_cons_zero, List.set_cons_succ, Nat.le_refl, Nat.zero_le, Nat.zero_sub, Nat.sub_zero, List.nil_append, List.cons_append, Option.toList_some, Option.toList_none, eq_self, lF c1, lF c2, ↓rO1 h.1, h4, show ¬ nI 32 < 32 by decide]
    rw [rWrite, if_pos (Or.inr (Or.inr c3))] at hq
    exact hq M h
