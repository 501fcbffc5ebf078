/-- the first place of x among l bytes from k on -/
def jIx (f : Nat → Int32) (x : Int32) : Nat → Nat → Option Nat
  | 0, _ => none
  | l + 1, k => if f k = x then some k else jIx f x l (k + 1)
theorem jIx_lt (f : Nat → Int32) (x : Int32) : ∀ l k j, jIx f x l k = some j → k ≤ j ∧ j < k + l
  | 0, _, _, h => by cases h
  | l + 1, k, j, h => by
    rw [jIx] at h
    split at h
    · cases h; omega
    · have := jIx_lt f x l (k + 1) j h; omega
set_option maxRecDepth 100000 in
set_option maxHeartbeats 4000000 in
theorem jl168 {E : xE} {M : xM} {p n b nx : Nat} {x : Int32} {l1 l2 : Option Value} {f : Nat → Int32} {Q : Option Value → xM → Nat → Prop} (hA : ∀ P, xarr M p P = P 1 n (fun k => .int (f k))) (hb : b ≤ n) (hn : n ≤ 64) : ∀ l k, k + l = b → Q (some (.int ((jIx f x l k).elim (-1) nI))) M nx →
    XZ E 168 (xZ E 168 Q) 7 [some (.ref p), l1, l2, some (.int (nI b)), some (.int x), some (.int (nI k))] [] M nx 0 0 := by
  intro l
  induction l with
  | zero =>
    intro k hk hq
    obtain rfl : k = b := by omega
    refine XZ.runH 60 [7] ?_
    simp only [n168, t168, ↓xh, ↓xst, ↓xrunE, ↓rG, rL, rSt, updA, List.elem_nil, List.elem_cons, Nat.reduceBEq, Bool.false_eq_true, if_false, if_true, true_and, and_true, true_or, or_true, not_false_eq_true, Nat.reduceAdd, Nat.reduceSub, Nat.reduceLeDiff, Nat.reduceEqDiff, Nat.reduceLT, ↓reduceIte, List.length_cons, List.length_nil, List.set_cons_zero, List.set_cons_succ, Nat.le_refl, Nat.zero_le, Nat.zero_sub, Nat.sub_zero, List.nil_append, List.cons_append, Option.toList_some, Option.toList_none, eq_self, nI_le (Nat.le_refl k) (show k < 2 ^ 31 by omega)]
    exact hq
  | succ l ih =>
    intro k hk hq
    have ik := nIx (show k < n by omega) (by omega)
    rw [jIx] at hq
    refine XZ.runH 60 [7] ?_
    by_cases c : f k = x
    · simp only [n168, t168, ↓xh, ↓xst, ↓xrunE, ↓rG, rL, rSt, updA, List.elem_nil, List.elem_cons, Nat.reduceBEq, Bool.false_eq_true, if_false, if_true, true_and, and_true, true_or, or_true, not_false_eq_true, Nat.reduceAdd, Nat.reduceSub, Nat.reduceLeDiff, Nat.reduceEqDiff, Nat.reduceLT, ↓reduceIte, List.length_cons, List.length_nil, List.set_cons_zero, List.set_cons_succ, Nat.le_refl, Nat.zero_le, Nat.zero_sub, Nat.sub_zero, List.nil_append, List.cons_append, Option.toList_some, Option.toList_none, eq_self, ↓hA, nI_ge (show k < b by omega) (show b < 2 ^ 31 by omega), ik, c]
      rw [if_pos c] at hq
      exact hq
    · simp only [n168, t168, ↓xh, ↓xst, ↓xrunE, ↓rG, rL, rSt, updA, List.elem_nil, List.elem_cons, Nat.reduceBEq, Bool.false_eq_true, if_false, if_true, true_and, and_true, true_or, or_true, not_false_eq_true, Nat.reduceAdd, Nat.reduceSub, Nat.reduceLeDiff, Nat.reduceEqDiff, Nat.reduceLT, ↓reduceIte, List.length_cons, List.length_nil, List.set_cons_zero, List.set_cons_succ, Nat.le_refl, Nat.zero_le, Nat.zero_sub, Nat.sub_zero, List.nil_append, List.cons_append, Option.toList_some, Option.toList_none, eq_self, ↓hA, nI_ge (show k < b by omega) (show b < 2 ^ 31 by omega), ik, c, nI_1]
      rw [if_neg c] at hq
      exact ih (k + 1) (by omega) hq
theorem rCh_b : ∀ n, n < 128 → ((nI n).toInt8).toInt32 = nI n := by decide +kernel
set_option maxRecDepth 100000 in
set_option maxHeartbeats 4000000 in
theorem jc168 {E : xE} {M : xM} {p n a b nx : Nat} {x : Int32} {f : Nat → Int32} {Q : Option Value → xM → Nat → Prop} (hA : ∀ P, xarr M p P = P 1 n (fun k => .int (f k))) (hx : rCh x) (hab : a ≤ b) (hb : b ≤ n) (hn : n ≤ 64) (hq : Q (some (.int ((jIx f x (b - a) a).elim (-1) nI))) M nx) : XC E 168 [.ref p, .int x, .int (nI a), .int (nI b)] M nx Q := by
  have e : x.toInt8.toInt32 = x := by obtain ⟨c, hc, rfl⟩ := hx; exact rCh_b c hc
  refine XC.run 60 [7] ?_
  simp only [n168, t168, ↓xh, ↓xst, ↓xrunE, ↓rG, rL, rSt, updA, List.elem_nil, List.elem_cons, Nat.reduceBEq, Bool.false_eq_true, if_false, if_true, true_and, and_true, true_or, or_true, not_false_eq_true, Nat.reduceAdd, Nat.reduceSub, Nat.reduceLeDiff, Nat.reduceEqDiff, Nat.reduceLT, ↓reduceIte, List.length_cons, List.length_nil, List.set_cons_zero, List.set_cons_succ, Nat.le_refl, Nat.zero_le, Nat.zero_sub, Nat.sub_zero, List.nil_append, List.cons_append, Option.toList_some, Option.toList_none, eq_self, e]
  exact jl168 hA hb hn (b - a) a (by omega) hq
theorem rCh_p : ∀ n, n < 128 → ¬ nI n < 0 ∧ nI n ≤ 255 := by decide +kernel
set_option maxRecDepth 100000 in
set_option maxHeartbeats 4000000 in
theorem jc166 {E : xE} {M : xM} {p n a nx : Nat} {x : Int32} {f : Nat → Int32} {Q : Option Value → xM → Nat → Prop} (hA : ∀ P, xarr M p P = P 1 n (fun k => .int (f k))) (hx : rCh x) (ha : a ≤ 64) (hn : n ≤ 64) (hq : Q (some (.int ((jIx f x (n - a) a).elim (-1) nI))) M nx) : XC E 166 [.ref p, .int x, .int (nI a), .int (nI n)] M nx Q := by
  have hp : ¬ x < 0 ∧ x ≤ 255 := by obtain ⟨c, hc, rfl⟩ := hx; exact rCh_p c hc
  have a0 : ¬ nI a < 0 := nI_pos (by omega)
  have nn : ¬ nI n < nI n := k2_nlt (nI_le (Nat.le_refl n) (by omega))
  refine XC.run 60 [] ?_
  simp only [n166, n167, t166, ↓xh, ↓xst, ↓xrunE, ↓rG, rL, rSt, updA, List.elem_nil, List.elem_cons, Nat.reduceBEq, Bool.false_eq_true, if_false, if_true, true_and, and_true, true_or, or_true, not_false_eq_true, Nat.reduceAdd, Nat.reduceSub, Nat.reduceLeDiff, Nat.reduceEqDiff, Nat.reduceLT, ↓reduceIte, List.length_cons, List.length_nil, List.set_cons_zero, List.set_cons_succ, Nat.le_refl, Nat.zero_le, Nat.zero_sub, Nat.sub_zero, List.nil_append, List.cons_append, Option.toList_some, Option.toList_none, eq_self]
  refine jc167 hp.1 hp.2 ?_
  refine XZ.runH 60 [] ?_
  by_cases c : a < n
  · have g := lT (k2_lt (nI_ge c (show n < 2 ^ 31 by omega)))
    simp only [n166, n168, t166, ↓xh, ↓xst, ↓xrunE, ↓rG, rL, rSt, updA, List.elem_nil, List.elem_cons, Nat.reduceBEq, Bool.false_eq_true, if_false, if_true, true_and, and_true, true_or, or_true, not_false_eq_true, Nat.reduceAdd, Nat.reduceSub, Nat.reduceLeDiff, Nat.reduceEqDiff, Nat.reduceLT, ↓reduceIte, List.length_cons, List.length_nil, List.set_cons_zero, List.set_cons_succ, Nat.le_refl, Nat.zero_le, Nat.zero_sub, Nat.sub_zero, List.nil_append, List.cons_append, Option.toList_some, Option.toList_none, eq_self, show ¬ (1 : Int32) = 0 by decide, ↓hA, ofN, lF a0, nn, g]
    refine jc168 hA hx (by omega) (by omega) hn ?_
    refine XZ.runH 60 [] ?_
    simp only [n166, t166, ↓xh, ↓xst, ↓xrunE, ↓rG, rL, rSt, updA, List.elem_nil, List.elem_cons, Nat.reduceBEq, Bool.false_eq_true, if_false, if_true, true_and, and_true, true_or, or_true, not_false_eq_true, Nat.reduceAdd, Nat.reduceSub, Nat.reduceLeDiff, Nat.reduceEqDiff, Nat.reduceLT, ↓reduceIte, List.length_cons, List.length_nil, List.set_cons_zero, List.set_cons_succ, Nat.le_refl, Nat.zero_le, Nat.zero_sub, Nat.sub_zero, List.nil_append, List.cons_append, Option.toList_some, Option.toList_none, eq_self]
    exact hq
  · have g := lF (k2_nlt (nI_le (show n ≤ a by omega) (show a < 2 ^ 31 by omega)))
    simp only [n166, t166, ↓xh, ↓xst, ↓xrunE, ↓rG, rL, rSt, updA, List.elem_nil, List.elem_cons, Nat.reduceBEq, Bool.false_eq_true, if_false, if_true, true_and, and_true, true_or, or_true, not_false_eq_true, Nat.reduceAdd, Nat.reduceSub, Nat.reduceLeDiff, Nat.reduceEqDiff, Nat.reduceLT, ↓reduceIte, List.length_cons, List.length_nil, List.set_cons_zero, List.set_cons_succ, Nat.le_refl, Nat.zero_le, Nat.zero_sub, Nat.sub_zero, List.nil_append, List.cons_append, Option.toList_some, Option.toList_none, eq_self, show ¬ (1 : Int32) = 0 by decide, ↓hA, ofN, lF a0, nn, g]
    rw [show n - a = 0 by omega] at hq
    exact hq
set_option maxRecDepth 100000 in
set_option maxHeartbeats 4000000 in
theorem jc150 {E : xE} {M : xM} {a p n b nx : Nat} {x : Int32} {f : Nat → Int32} {Q : Option Value → xM → Nat → Prop} (h : jS M a p n f) (hx : rCh x) (hb : b ≤ 64) (hq : Q (some (.int ((jIx f x (n - b) b).elim (-1) nI))) M nx) : XC E 150 [.ref a, .int x, .int (nI b)] M nx Q := by
  refine XC.run 60 [] ?_
  simp only [n150, n152, t150, ↓xh, ↓xst, ↓xrunE, ↓rG, rL, rSt, updA, List.elem_nil, List.elem_cons, Nat.reduceBEq, Bool.false_eq_true, if_false, if_true, true_and, and_true, true_or, or_true, not_false_eq_true, Nat.reduceAdd, Nat.reduceSub, Nat.reduceLeDiff, Nat.reduceEqDiff, Nat.reduceLT, ↓reduceIte, List.length_cons, List.length_nil, List.set_cons_zero, List.set_cons_succ, Nat.le_refl, Nat.zero_le, Nat.zero_sub, Nat.sub_zero, List.nil_append, List.cons_append, Option.toList_some, Option.toList_none, eq_self, ↓jO h]
  refine jc152 h ?_
  refine XZ.runH 60 [] ?_
  simp only [n150, n148, t150, ↓xh, ↓xst, ↓xrunE, ↓rG, rL, rSt, updA, List.elem_nil, List.elem_cons, Nat.reduceBEq, Bool.false_eq_true, if_false, if_true, true_and, and_true, true_or, or_true, not_false_eq_true, Nat.reduceAdd, Nat.reduceSub, Nat.reduceLeDiff, Nat.reduceEqDiff, Nat.reduceLT, ↓reduceIte, List.length_cons, List.length_nil, List.set_cons_zero, List.set_cons_succ, Nat.le_refl, Nat.zero_le, Nat.zero_sub, Nat.sub_zero, List.nil_append, List.cons_append, Option.toList_some, Option.toList_none, eq_self, show ¬ (1 : Int32) = 0 by decide, ↓jO h]
  refine jc148 h ?_
  refine XZ.runH 60 [] ?_
  simp only [n150, n166, t150, ↓xh, ↓xst, ↓xrunE, ↓rG, rL, rSt, updA, List.elem_nil, List.elem_cons, Nat.reduceBEq, Bool.false_eq_true, if_false, if_true, true_and, and_true, true_or, or_true, not_false_eq_true, Nat.reduceAdd, Nat.reduceSub, Nat.reduceLeDiff, Nat.reduceEqDiff, Nat.reduceLT, ↓reduceIte, List.length_cons, List.length_nil, List.set_cons_zero, List.set_cons_succ, Nat.le_refl, Nat.zero_le, Nat.zero_sub, Nat.sub_zero, List.nil_append, List.cons_append, Option.toList_some, Option.toList_none, eq_self]
  refine jc166 (jA h) hx hb h.2.2.1 ?_
  refine XZ.runH 60 [] ?_
  simp only [n150, t150, ↓xh, ↓xst, ↓xrunE, ↓rG, rL, rSt, updA, List.elem_nil, List.elem_cons, Nat.reduceBEq, Bool.false_eq_true, if_false, if_true, true_and, and_true, true_or, or_true, not_false_eq_true, Nat.reduceAdd, Nat.reduceSub, Nat.reduceLeDiff, Nat.reduceEqDiff, Nat.reduceLT, ↓reduceIte, List.length_cons, List.length_nil, List.set_cons_zero, List.set_cons_succ, Nat.le_refl, Nat.zero_le, Nat.zero_sub, Nat.sub_zero, List.nil_append, List.cons_append, Option.toList_some, Option.toList_none, eq_self]
  exact hq
set_option maxRecDepth 100000 in
set_option maxHeartbeats 4000000 in
theorem jc143 {E : xE} {M : xM} {a p n nx : Nat} {x : Int32} {f : Nat → Int32} {Q : Option Value → xM → Nat → Prop} (h : jS M a p n f) (hx : rCh x) (hq : Q (some (.int ((jIx f x n 0).elim (-1) nI))) M nx) : XC E 143 [.ref a, .int x] M nx Q := by
  refine XC.run 60 [] ?_
  simp only [n143, n150, t143, ↓xh, ↓xst, ↓xrunE, ↓rG, rL, rSt, updA, List.elem_nil, List.elem_cons, Nat.reduceBEq, Bool.false_eq_true, if_false, if_true, true_and, and_true, true_or, or_true, not_false_eq_true, Nat.reduceAdd, Nat.reduceSub, Nat.reduceLeDiff, Nat.reduceEqDiff, Nat.reduceLT, ↓reduceIte, List.length_cons, List.length_nil, List.set_cons_zero, List.set_cons_succ, Nat.le_refl, Nat.zero_le, Nat.zero_sub, Nat.sub_zero, List.nil_append, List.cons_append, Option.toList_some, Option.toList_none, eq_self, ↓jO h]
  refine jc150 (b := 0) h hx (by omega) ?_
  refine XZ.runH 60 [] ?_
  simp only [n143, t143, ↓xh, ↓xst, ↓xrunE, ↓rG, rL, rSt, updA, List.elem_nil, List.elem_cons, Nat.reduceBEq, Bool.false_eq_true, if_false, if_true, true_and, and_true, true_or, or_true, not_false_eq_true, Nat.reduceAdd, Nat.reduceSub, Nat.reduceLeDiff, Nat.reduceEqDiff, Nat.reduceLT, ↓reduceIte, List.length_cons, List.length_nil, List.set_cons_zero, List.set_cons_succ, Nat.le_refl, Nat.zero_le, Nat.zero_sub, Nat.sub_zero, List.nil_append, List.cons_append, Option.toList_some, Option.toList_none, eq_self]
  exact hq
/-- the same bytes: l are left, from k on -/
def jEq (f g : Nat → Int32) : Nat → Nat → Bool
  | 0, _ => true
  | l + 1, k => if f k = g k then jEq f g l (k + 1) else false
set_option maxRecDepth 100000 in
set_option maxHeartbeats 4000000 in
theorem jl164 {E : xE} {M : xM} {p p' n nx : Nat} {f g : Nat → Int32} {Q : Option Value → xM → Nat → Prop} (hA : ∀ P, xarr M p P = P 1 n (fun k => .int (f k))) (hB : ∀ P, xarr M p' P = P 1 n (fun k => .int (g k))) (hn : n ≤ 64) : ∀ l k, k + l = n → Q (some (.int (if jEq f g l k then 1 else 0))) M nx →
    XZ E 164 (xZ E 164 Q) 9 [some (.ref p), some (.ref p'), some (.int (nI k))] [] M nx 0 0 := by
  intro l
  induction l with
  | zero =>
    intro k hk hq
    obtain rfl : k = n := by omega
    refine XZ.runH 60 [9] ?_
    simp only [n164, t164, ↓xh, ↓xst, ↓xrunE, ↓rG, rL, rSt, updA, List.elem_nil, List.elem_cons, Nat.reduceBEq, Bool.false_eq_true, if_false, if_true, true_and, and_true, true_or, or_true, not_false_eq_true, Nat.reduceAdd, Nat.reduceSub, Nat.reduceLeDiff, Nat.reduceEqDiff, Nat.reduceLT, ↓reduceIte, List.length_cons, List.length_nil, List.set_cons_zero, List.set_cons_succ, Nat.le_refl, Nat.zero_le, Nat.zero_sub, Nat.sub_zero, List.nil_append, List.cons_append, Option.toList_some, Option.toList_none, eq_self, ↓hA, ofN, nI_le (Nat.le_refl k) (show k < 2 ^ 31 by omega)]
    exact hq
  | succ l ih =>
    intro k hk hq
    have ik := nIx (show k < n by omega) (by omega)
    rw [jEq] at hq
    refine XZ.runH 60 [9] ?_
    by_cases c : f k = g k
    · simp only [n164, t164, ↓xh, ↓xst, ↓xrunE, ↓rG, rL, rSt, updA, List.elem_nil, List.elem_cons, Nat.reduceBEq, Bool.false_eq_true, if_false, if_true, true_and, and_true, true_or, or_true, not_false_eq_true, Nat.reduceAdd, Nat.reduceSub, Nat.reduceLeDiff, Nat.reduceEqDiff, Nat.reduceLT, ↓reduceIte, List.length_cons, List.length_nil, List.set_cons_zero, List.set_cons_succ, Nat.le_refl, Nat.zero_le, Nat.zero_sub, Nat.sub_zero, List.nil_append, List.cons_append, Option.toList_some, Option.toList_none, eq_self, ↓hA, ↓hB, ofN, nI_ge (show k < n by omega) (show n < 2 ^ 31 by omega), ik, c, nI_1]
      rw [if_pos c] at hq
      exact ih (k + 1) (by omega) hq
    · simp only [n164, t164, ↓xh, ↓xst, ↓xrunE, ↓rG, rL, rSt, updA, List.elem_nil, List.elem_cons, Nat.reduceBEq, Bool.false_eq_true, if_false, if_true, true_and, and_true, true_or, or_true, not_false_eq_true, Nat.reduceAdd, Nat.reduceSub, Nat.reduceLeDiff, Nat.reduceEqDiff, Nat.reduceLT, ↓reduceIte, List.length_cons, List.length_nil, List.set_cons_zero, List.set_cons_succ, Nat.le_refl, Nat.zero_le, Nat.zero_sub, Nat.sub_zero, List.nil_append, List.cons_append, Option.toList_some, Option.toList_none, eq_self, ↓hA, ↓hB, ofN, nI_ge (show k < n by omega) (show n < 2 ^ 31 by omega), ik, c]
      rw [if_neg c] at hq
      exact hq
set_option maxRecDepth 100000 in
set_option maxHeartbeats 4000000 in
theorem jc164 {E : xE} {M : xM} {p p' n n' nx : Nat} {f g : Nat → Int32} {Q : Option Value → xM → Nat → Prop} (hA : ∀ P, xarr M p P = P 1 n (fun k => .int (f k))) (hB : ∀ P, xarr M p' P = P 1 n' (fun k => .int (g k))) (hn : n ≤ 64) (hn' : n' ≤ 64) (hq : Q (some (.int (if n = n' ∧ jEq f g n 0 = true then 1 else 0))) M nx) : XC E 164 [.ref p, .ref p'] M nx Q := by
  refine XC.run 60 [9] ?_
  by_cases c : n = n'
  · subst c
    simp only [n164, t164, ↓xh, ↓xst, ↓xrunE, ↓rG, rL, rSt, updA, List.elem_nil, List.elem_cons, Nat.reduceBEq, Bool.false_eq_true, if_false, if_true, true_and, and_true, true_or, or_true, not_false_eq_true, Nat.reduceAdd, Nat.reduceSub, Nat.reduceLeDiff, Nat.reduceEqDiff, Nat.reduceLT, ↓reduceIte, List.length_cons, List.length_nil, List.set_cons_zero, List.set_cons_succ, Nat.le_refl, Nat.zero_le, Nat.zero_sub, Nat.sub_zero, List.nil_append, List.cons_append, Option.toList_some, Option.toList_none, eq_self, ↓hA, ↓hB, ofN]
    exact jl164 hA hB hn n 0 (by omega) (by simpa using hq)
  · have z : ¬ nI n = nI n' := fun z => c (nI_inj (by omega) (by omega) z)
    simp only [n164, t164, ↓xh, ↓xst, ↓xrunE, ↓rG, rL, rSt, updA, List.elem_nil, List.elem_cons, Nat.reduceBEq, Bool.false_eq_true, if_false, if_true, true_and, and_true, true_or, or_true, not_false_eq_true, Nat.reduceAdd, Nat.reduceSub, Nat.reduceLeDiff, Nat.reduceEqDiff, Nat.reduceLT, ↓reduceIte, List.length_cons, List.length_nil, List.set_cons_zero, List.set_cons_succ, Nat.le_refl, Nat.zero_le, Nat.zero_sub, Nat.sub_zero, List.nil_append, List.cons_append, Option.toList_some, Option.toList_none, eq_self, ↓hA, ↓hB, ofN, z]
    rw [if_neg (fun y => c y.1)] at hq
    exact hq
