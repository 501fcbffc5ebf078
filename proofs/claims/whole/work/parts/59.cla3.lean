/-! the tick's mesh: telling, ageing, taking, zones -/
/-- the entries before place j of router r are aged -/
def cAf (A : cA) (v v' : cV) (j : Nat) : Prop := (∀ kd, kd ≠ 10 → v' kd = v kd) ∧ ∀ r n, r < A 2 1 → n < 8 → v' 10 (8 * r + n) = if 8 * r + n < j ∧ n < A 2 0 then cAg (v 10 (8 * r + n)) else v 10 (8 * r + n)
theorem cAf.st {A : cA} {v v1 : cV} {r k : Nat} (hk : k < A 2 0) (k8 : k < 8) (h : cAf A v v1 (8 * r + k)) : cAf A v (uv v1 10 (8 * r + k) (cAg (v1 10 (8 * r + k)))) (8 * r + (k + 1)) := by
  refine ⟨fun kd a => by rw [uv_k a]; exact h.1 kd a, fun r' n hr' hn => ?_⟩
  by_cases e : 8 * r' + n = 8 * r + k
  · obtain ⟨rfl, rfl⟩ : r' = r ∧ n = k := by omega
    rw [uv_s, h.2 r' n hr' hn, if_neg (by omega), if_pos ⟨by omega, hk⟩]
  · rw [uv_n (fun z => e z.2), h.2 r' n hr' hn]
    by_cases c : 8 * r' + n < 8 * r + k ∧ n < A 2 0
    · rw [if_pos c, if_pos ⟨by omega, c.2⟩]
    · rw [if_neg c, if_neg (by omega)]
theorem cAf.nx {A : cA} {v v1 : cV} {r : Nat} (h : cAf A v v1 (8 * r + A 2 0)) (h8 : A 2 0 ≤ 8) : cAf A v v1 (8 * (r + 1)) := by
  refine ⟨h.1, fun r' n hr' hn => ?_⟩
  rw [h.2 r' n hr' hn]
  by_cases c : 8 * r' + n < 8 * r + A 2 0 ∧ n < A 2 0
  · rw [if_pos c, if_pos (by omega)]
  · rw [if_neg c, if_neg (by omega)]
section TCK
variable {E : xE} {B nx : Nat} {M0 M : xM} {A : cA} {v : cV} {s : rS} {Q : Option Value → xM → Nat → Prop}
/-- the tellers before r have told -/
def cTq (v v' : cV) (s : rS) (r : Nat) : Prop := (∀ kd, kd ≠ 17 → kd ≠ 18 → v' kd = v kd) ∧ ∀ t n, t < r → n < 8 → v' 17 t n = (if s.2 7 (8 * t + n) < 0 then -1 else if s.2 10 (8 * t + n) = 2 then 16 else s.2 7 (8 * t + n)) ∧ (¬ s.2 7 (8 * t + n) < 0 → v' 18 t n = s.2 9 (8 * t + n))
theorem cM.tq {A : cA} {v v1 : cV} {s : rS} (hm : cM A v s) (h : ∀ kd, kd ≠ 17 → kd ≠ 18 → v1 kd = v kd) : cM A v1 s := hm.sm (h 4 (by decide) (by decide)) (h 10 (by decide) (by decide)) (h 14 (by decide) (by decide)) (h 15 (by decide) (by decide)) rfl rfl (fun _ _ _ => rfl)
set_option maxRecDepth 100000 in
set_option maxHeartbeats 4000000 in
theorem ml38 (hm : cM A v s) (hq : ∀ M' v', cR E B M0 M' A v' → cTq v v' s (A 2 1) → Q (some (.int (nI (sumE s (8 * A 2 1))))) M' nx) : ∀ l r M1 v1, r + l = A 2 1 → cR E B M0 M1 A v1 → cTq v v1 s r → XZ E 38 (xZ E 38 Q) 4 [some (.ref (A 0 0 + 3)), some (.int (nI (sumE s (8 * r)))), some (.int (nI r))] [] M1 nx 0 0 := by
  intro l
  induction l with
  | zero =>
    intro r M1 v1 hr h1 ht
    obtain rfl : r = A 2 1 := by omega
    have m1 := hm.tq ht.1
    have hR := h1.1.2.2.1
    have e := eT (nI_le (Nat.le_refl (A 2 1)) (show A 2 1 < 2 ^ 31 by omega))
    refine XZ.runH 60 [4] ?_
    simp only [n38, t38, ↓xh, ↓xst, ↓xrunE, ↓rG, rL, rSt, updA, List.elem_nil, List.elem_cons, Nat.reduceBEq, Bool.false_eq_true, if_false, if_true, true_and, and_true, true_or, or_true, not_false_eq_true, Nat.reduceAdd, Nat.reduceSub, Nat.reduceLeDiff, Nat.reduceEqDiff, Nat.reduceLT, ↓reduceIte, List.length_cons, List.length_nil, List.set_cons_zero, List.set_cons_succ, Nat.le_refl, Nat.zero_le, Nat.zero_sub, Nat.sub_zero, List.nil_append, List.cons_append, Option.toList_some, Option.toList_none, eq_self, ↓cFx h1, m1.1.2.1, e]
    exact hq M1 v1 h1 ht
  | succ l ih =>
    intro r M1 v1 hr h1 ht
    have m1 := hm.tq ht.1
    have hR := h1.1.2.2.1
    have r1 : r < A 2 1 := by omega
    have e := eF (nI_ge r1 (show A 2 1 < 2 ^ 31 by omega))
    have ir := nIx (show r < 6 by omega)
    refine XZ.runH 60 [4] ?_
    simp only [n38, n49, t38, ↓xh, ↓xst, ↓xrunE, ↓rG, rL, rSt, updA, List.elem_nil, List.elem_cons, Nat.reduceBEq, Bool.false_eq_true, if_false, if_true, true_and, and_true, true_or, or_true, not_false_eq_true, Nat.reduceAdd, Nat.reduceSub, Nat.reduceLeDiff, Nat.reduceEqDiff, Nat.reduceLT, ↓reduceIte, List.length_cons, List.length_nil, List.set_cons_zero, List.set_cons_succ, Nat.le_refl, Nat.zero_le, Nat.zero_sub, Nat.sub_zero, List.nil_append, List.cons_append, Option.toList_some, Option.toList_none, eq_self, ↓cFx h1, m1.1.2.1, e, ir, r1, ↓cRo h1 r1]
    refine mc49 h1 m1 r1 (fun M2 v2 h2 t2 => ?_)
    have mo := sumE_mono s (8 * r) 8
    have es : nI (sumE s (8 * r)) + nI (sumE s (8 * r + 8) - sumE s (8 * r)) = nI (sumE s (8 * (r + 1))) := by
      rw [nI_add, show 8 * (r + 1) = 8 * r + 8 by omega]
      congr 1
      omega
    refine XZ.runH 60 [4] ?_
    simp only [n38, t38, ↓xh, ↓xst, ↓xrunE, ↓rG, rL, rSt, updA, List.elem_nil, List.elem_cons, Nat.reduceBEq, Bool.false_eq_true, if_false, if_true, true_and, and_true, true_or, or_true, not_false_eq_true, Nat.reduceAdd, Nat.reduceSub, Nat.reduceLeDiff, Nat.reduceEqDiff, Nat.reduceLT, ↓reduceIte, List.length_cons, List.length_nil, List.set_cons_zero, List.set_cons_succ, Nat.le_refl, Nat.zero_le, Nat.zero_sub, Nat.sub_zero, List.nil_append, List.cons_append, Option.toList_some, Option.toList_none, eq_self, es, nI_1]
    refine ih (r + 1) M2 v2 (by omega) h2 ⟨fun kd a b => (t2.1 kd a b).trans (ht.1 kd a b), fun t n hlt hn => ?_⟩
    by_cases e : t = r
    · subst e
      exact t2.2.2 n hn
    · rw [(t2.2.1 t e).1, (t2.2.1 t e).2]
      exact ht.2 t n (by omega) hn
set_option maxRecDepth 100000 in
set_option maxHeartbeats 4000000 in
theorem mc38 (h : cR E B M0 M A v) (hm : cM A v s) (hq : ∀ M' v', cR E B M0 M' A v' → cTq v v' s (A 2 1) → Q (some (.int (nI (sumE s (8 * A 2 1))))) M' nx) : XC E 38 [.ref (A 0 0 + 3)] M nx Q := by
  refine XC.run 60 [4] ?_
  simp only [n38, t38, ↓xh, ↓xst, ↓xrunE, ↓rG, rL, rSt, updA, List.elem_nil, List.elem_cons, Nat.reduceBEq, Bool.false_eq_true, if_false, if_true, true_and, and_true, true_or, or_true, not_false_eq_true, Nat.reduceAdd, Nat.reduceSub, Nat.reduceLeDiff, Nat.reduceEqDiff, Nat.reduceLT, ↓reduceIte, List.length_cons, List.length_nil, List.set_cons_zero, List.set_cons_succ, Nat.le_refl, Nat.zero_le, Nat.zero_sub, Nat.sub_zero, List.nil_append, List.cons_append, Option.toList_some, Option.toList_none, eq_self]
  exact ml38 hm hq (A 2 1) 0 M v (by omega) h ⟨fun _ _ _ => rfl, fun t n ht _ => by omega⟩
set_option maxRecDepth 100000 in
set_option maxHeartbeats 4000000 in
theorem ml39k {r : Nat} (hr : r < A 2 1) (h4 : v 4 0 1 = nI (A 2 0)) (hq : ∀ M' v', cR E B M0 M' A v' → cAf A v v' (8 * (r + 1)) → XZ E 39 (xZ E 39 Q) 40 [some (.ref (A 0 0 + 3)), some (.int (nI r)), some (.int (nI (A 2 0)))] [] M' nx 0 0) : ∀ l k M1 v1, k + l = A 2 0 → cR E B M0 M1 A v1 → cAf A v v1 (8 * r + k) → XZ E 39 (xZ E 39 Q) 12 [some (.ref (A 0 0 + 3)), some (.int (nI r)), some (.int (nI k))] [] M1 nx 0 0 := by
  intro l
  induction l with
  | zero =>
    intro k M1 v1 hk h1 ht
    obtain rfl : k = A 2 0 := by omega
    have hN := h1.1.2.1
    have e := eT (nI_le (Nat.le_refl (A 2 0)) (show A 2 0 < 2 ^ 31 by omega))
    have e4 : v1 4 0 1 = nI (A 2 0) := by rw [ht.1 4 (by decide)]; exact h4
    refine XZ.runH 60 [12, 40] ?_
    simp only [n39, t39, ↓xh, ↓xst, ↓xrunE, ↓rG, rL, rSt, updA, List.elem_nil, List.elem_cons, Nat.reduceBEq, Bool.false_eq_true, if_false, if_true, true_and, and_true, true_or, or_true, not_false_eq_true, Nat.reduceAdd, Nat.reduceSub, Nat.reduceLeDiff, Nat.reduceEqDiff, Nat.reduceLT, ↓reduceIte, List.length_cons, List.length_nil, List.set_cons_zero, List.set_cons_succ, Nat.le_refl, Nat.zero_le, Nat.zero_sub, Nat.sub_zero, List.nil_append, List.cons_append, Option.toList_some, Option.toList_none, eq_self, ↓cFx h1, e4, e]
    exact hq M1 v1 h1 (ht.nx hN)
  | succ l ih =>
    intro k M1 v1 hk h1 ht
    have hN := h1.1.2.1
    have hR := h1.1.2.2.1
    have k1 : k < A 2 0 := by omega
    have k8 : k < 8 := by omega
    have e := eF (nI_ge k1 (show A 2 0 < 2 ^ 31 by omega))
    have e4 : v1 4 0 1 = nI (A 2 0) := by rw [ht.1 4 (by decide)]; exact h4
    have ir := nIx (show r < 6 by omega)
    have ik := nIx k8
    refine XZ.runH 60 [12, 40] ?_
    simp only [n39, n54, t39, ↓xh, ↓xst, ↓xrunE, ↓rG, rL, rSt, updA, List.elem_nil, List.elem_cons, Nat.reduceBEq, Bool.false_eq_true, if_false, if_true, true_and, and_true, true_or, or_true, not_false_eq_true, Nat.reduceAdd, Nat.reduceSub, Nat.reduceLeDiff, Nat.reduceEqDiff, Nat.reduceLT, ↓reduceIte, List.length_cons, List.length_nil, List.set_cons_zero, List.set_cons_succ, Nat.le_refl, Nat.zero_le, Nat.zero_sub, Nat.sub_zero, List.nil_append, List.cons_append, Option.toList_some, Option.toList_none, eq_self, ↓cFx h1, e4, e, ir, ik, hr, k8, ↓cRo h1 hr, ↓cEn h1 hr k8]
    refine ec54 (cEb h1 hr k8) (cEnC h1 hr k8) (fun M2 h2 => ?_)
    refine XZ.runH 60 [12, 40] ?_
    simp only [n39, t39, ↓xh, ↓xst, ↓xrunE, ↓rG, rL, rSt, updA, List.elem_nil, List.elem_cons, Nat.reduceBEq, Bool.false_eq_true, if_false, if_true, true_and, and_true, true_or, or_true, not_false_eq_true, Nat.reduceAdd, Nat.reduceSub, Nat.reduceLeDiff, Nat.reduceEqDiff, Nat.reduceLT, ↓reduceIte, List.length_cons, List.length_nil, List.set_cons_zero, List.set_cons_succ, Nat.le_refl, Nat.zero_le, Nat.zero_sub, Nat.sub_zero, List.nil_append, List.cons_append, Option.toList_some, Option.toList_none, eq_self, nI_1]
    exact ih (k + 1) M2 _ (by omega) (cEs h1 hr k8 h2) (ht.st k1 k8)
set_option maxRecDepth 100000 in
set_option maxHeartbeats 4000000 in
theorem ml39 (hm : cM A v s) (hq : ∀ M' v', cR E B M0 M' A v' → cAf A v v' (8 * A 2 1) → Q none M' nx) : ∀ l r M1 v1 l2, r + l = A 2 1 → cR E B M0 M1 A v1 → cAf A v v1 (8 * r) → XZ E 39 (xZ E 39 Q) 2 [some (.ref (A 0 0 + 3)), some (.int (nI r)), l2] [] M1 nx 0 0 := by
  intro l
  induction l with
  | zero =>
    intro r M1 v1 l2 hr h1 ht
    obtain rfl : r = A 2 1 := by omega
    have hR := h1.1.2.2.1
    have e := eT (nI_le (Nat.le_refl (A 2 1)) (show A 2 1 < 2 ^ 31 by omega))
    have e4 : v1 4 0 3 = nI (A 2 1) := by rw [ht.1 4 (by decide)]; exact hm.1.2.1
    refine XZ.runH 60 [2] ?_
    simp only [n39, t39, ↓xh, ↓xst, ↓xrunE, ↓rG, rL, rSt, updA, List.elem_nil, List.elem_cons, Nat.reduceBEq, Bool.false_eq_true, if_false, if_true, true_and, and_true, true_or, or_true, not_false_eq_true, Nat.reduceAdd, Nat.reduceSub, Nat.reduceLeDiff, Nat.reduceEqDiff, Nat.reduceLT, ↓reduceIte, List.length_cons, List.length_nil, List.set_cons_zero, List.set_cons_succ, Nat.le_refl, Nat.zero_le, Nat.zero_sub, Nat.sub_zero, List.nil_append, List.cons_append, Option.toList_some, Option.toList_none, eq_self, ↓cFx h1, e4, e]
    exact hq M1 v1 h1 ht
  | succ l ih =>
    intro r M1 v1 l2 hr h1 ht
    have hR := h1.1.2.2.1
    have r1 : r < A 2 1 := by omega
    have e := eF (nI_ge r1 (show A 2 1 < 2 ^ 31 by omega))
    have e4 : v1 4 0 3 = nI (A 2 1) := by rw [ht.1 4 (by decide)]; exact hm.1.2.1
    refine XZ.runH 60 [2, 12] ?_
    simp only [n39, t39, ↓xh, ↓xst, ↓xrunE, ↓rG, rL, rSt, updA, List.elem_nil, List.elem_cons, Nat.reduceBEq, Bool.false_eq_true, if_false, if_true, true_and, and_true, true_or, or_true, not_false_eq_true, Nat.reduceAdd, Nat.reduceSub, Nat.reduceLeDiff, Nat.reduceEqDiff, Nat.reduceLT, ↓reduceIte, List.length_cons, List.length_nil, List.set_cons_zero, List.set_cons_succ, Nat.le_refl, Nat.zero_le, Nat.zero_sub, Nat.sub_zero, List.nil_append, List.cons_append, Option.toList_some, Option.toList_none, eq_self, ↓cFx h1, e4, e]
    refine ml39k (v := v) r1 hm.1.1 (fun M2 v2 h2 t2 => ?_) (A 2 0) 0 M1 v1 (by omega) h1 ht
    refine XZ.runH 60 [2] ?_
    simp only [n39, t39, ↓xh, ↓xst, ↓xrunE, ↓rG, rL, rSt, updA, List.elem_nil, List.elem_cons, Nat.reduceBEq, Bool.false_eq_true, if_false, if_true, true_and, and_true, true_or, or_true, not_false_eq_true, Nat.reduceAdd, Nat.reduceSub, Nat.reduceLeDiff, Nat.reduceEqDiff, Nat.reduceLT, ↓reduceIte, List.length_cons, List.length_nil, List.set_cons_zero, List.set_cons_succ, Nat.le_refl, Nat.zero_le, Nat.zero_sub, Nat.sub_zero, List.nil_append, List.cons_append, Option.toList_some, Option.toList_none, eq_self, nI_1]
    exact ih (r + 1) M2 v2 _ (by omega) h2 t2
set_option maxRecDepth 100000 in
set_option maxHeartbeats 4000000 in
theorem mc39 (h : cR E B M0 M A v) (hm : cM A v s) (hq : ∀ M' v', cR E B M0 M' A v' → cAf A v v' (8 * A 2 1) → Q none M' nx) : XC E 39 [.ref (A 0 0 + 3)] M nx Q := by
  refine XC.run 60 [2] ?_
  simp only [n39, t39, ↓xh, ↓xst, ↓xrunE, ↓rG, rL, rSt, updA, List.elem_nil, List.elem_cons, Nat.reduceBEq, Bool.false_eq_true, if_false, if_true, true_and, and_true, true_or, or_true, not_false_eq_true, Nat.reduceAdd, Nat.reduceSub, Nat.reduceLeDiff, Nat.reduceEqDiff, Nat.reduceLT, ↓reduceIte, List.length_cons, List.length_nil, List.set_cons_zero, List.set_cons_succ, Nat.le_refl, Nat.zero_le, Nat.zero_sub, Nat.sub_zero, List.nil_append, List.cons_append, Option.toList_some, Option.toList_none, eq_self]
  exact ml39 hm hq (A 2 1) 0 M v _ (by omega) h ⟨fun _ _ => rfl, fun r n _ _ => by rw [if_neg (by omega)]⟩
/-- in the midst of taking -/
def cTt (A : cA) (v v' : cV) (s s' : rS) : Prop := cM A v' s' ∧ cTo A v' s' ∧ (∀ kd, kd ≠ 10 → v' kd = v kd) ∧ rY s s'
theorem cTt.tr {A : cA} {v v1 v2 : cV} {s s1 s2 : rS} (h : cTt A v v1 s s1) (g : cTt A v1 v2 s1 s2) : cTt A v v2 s s2 := ⟨g.1, g.2.1, fun kd hk => (g.2.2.1 kd hk).trans (h.2.2.1 kd hk), h.2.2.2.tr g.2.2.2⟩
theorem cTt.stp {A : cA} {v : cV} {s : rS} {r t p n : Nat} (hR : A 2 1 ≤ 6) (hr : r < A 2 1) (ht : t < A 2 1) (hn : n < 8) (hp : p < 8) (hm : cM A v s) (ho : cTo A v s) (on : ¬ s.2 6 r = 0) (tr : ¬ t = r) (h1 : rHas s r p = true) (h2 : rHas s t p = true) (k1 : ¬ v 17 t n = -1) (k2 : ¬ v 18 t n = nI p) : cTt A v (uv v 10 (8 * r + n) (cTk (v 10 (8 * r + n)) (v 17 t n) (nI t) (nI p))) s (if rTc s r t p n then rTake s r t p n else s) := by
  obtain ⟨a, b⟩ := cM.take hR hr ht hn hp hm ho on tr h1 h2 k1 k2
  refine ⟨a, b, fun kd hk => uv_k hk, ?_⟩
  split
  · exact rY.take s r t p n
  · exact rY.rf s
set_option maxRecDepth 100000 in
set_option maxHeartbeats 4000000 in
theorem ml50k {r t p : Nat} (hr : r < A 2 1) (ht : t < A 2 1) (hp : p < 8) (tr : ¬ t = r) : ∀ l n M1 v1 s1, n + l = 8 → cR E B M0 M1 A v1 → cM A v1 s1 → cTo A v1 s1 → ¬ s1.2 6 r = 0 → rHas s1 r p = true → rHas s1 t p = true → (∀ M' v', cR E B M0 M' A v' → cTt A v1 v' s1 (rTn r t p l n s1) → XZ E 50 (xZ E 50 Q) 86 [some (.ref (A 4 r)), some (.ref (A 4 t)), some (.int (nI t)), some (.int (nI p)), some (.int (nI 8))] [] M' nx 0 0) →
    XZ E 50 (xZ E 50 Q) 32 [some (.ref (A 4 r)), some (.ref (A 4 t)), some (.int (nI t)), some (.int (nI p)), some (.int (nI n))] [] M1 nx 0 0 := by
  intro l
  induction l with
  | zero =>
    intro n M1 v1 s1 hn h1 hm ho on p1 p2 hq
    obtain rfl : n = 8 := by omega
    refine XZ.runH 60 [32, 86] ?_
    simp only [n50, t50, ↓xh, ↓xst, ↓xrunE, ↓rG, rL, rSt, updA, List.elem_nil, List.elem_cons, Nat.reduceBEq, Bool.false_eq_true, if_false, if_true, true_and, and_true, true_or, or_true, not_false_eq_true, Nat.reduceAdd, Nat.reduceSub, Nat.reduceLeDiff, Nat.reduceEqDiff, Nat.reduceLT, ↓reduceIte, List.length_cons, List.length_nil, List.set_cons_zero, List.set_cons_succ, Nat.le_refl, Nat.zero_le, Nat.zero_sub, Nat.sub_zero, List.nil_append, List.cons_append, Option.toList_some, Option.toList_none, eq_self, show (8 : Int32) ≤ nI 8 by decide]
    exact hq M1 v1 h1 ⟨hm, ho, fun _ _ => rfl, rY.rf _⟩
  | succ l ih =>
    intro n M1 v1 s1 hn h1 hm ho on p1 p2 hq
    have hR := h1.1.2.2.1
    have n8 : n < 8 := by omega
    have g : ¬ (8 : Int32) ≤ nI n := nI_ge (show n < 8 by omega) (by decide)
    have i_n := nIx n8
    rw [rTn] at hq
    have to := ho.1 t n ht n8
    have skip : rTc s1 r t p n = false → XZ E 50 (xZ E 50 Q) 32 [some (.ref (A 4 r)), some (.ref (A 4 t)), some (.int (nI t)), some (.int (nI p)), some (.int (nI (n + 1)))] [] M1 nx 0 0 := by
      intro z
      rw [z] at hq
      exact ih (n + 1) M1 v1 s1 (by omega) h1 hm ho on p1 p2 hq
    refine XZ.runH 60 [32, 86] ?_
    by_cases c1 : v1 17 t n = -1
    · have f : s1.2 12 (8 * t + n) < 0 := by
        by_cases f : s1.2 12 (8 * t + n) < 0
        · exact f
        · rw [to.1, if_neg f] at c1
          obtain ⟨_, _, _, d, hd, ed⟩ := ho.2 t n (by omega) n8 f
          split at c1
          · exact absurd c1 (by decide)
          · rw [ed] at c1
            exact absurd c1 (nI_m1 (by omega))
      simp only [n50, t50, ↓xh, ↓xst, ↓xrunE, ↓rG, rL, rSt, updA, List.elem_nil, List.elem_cons, Nat.reduceBEq, Bool.false_eq_true, if_false, if_true, true_and, and_true, true_or, or_true, not_false_eq_true, Nat.reduceAdd, Nat.reduceSub, Nat.reduceLeDiff, Nat.reduceEqDiff, Nat.reduceLT, ↓reduceIte, List.length_cons, List.length_nil, List.set_cons_zero, List.set_cons_succ, Nat.le_refl, Nat.zero_le, Nat.zero_sub, Nat.sub_zero, List.nil_append, List.cons_append, Option.toList_some, Option.toList_none, eq_self, g, i_n, ↓cRo h1 ht, c1, nI_1]
      exact skip (rTc_no (Or.inr (Or.inr (Or.inl f))))
    have f : ¬ s1.2 12 (8 * t + n) < 0 := fun z => c1 (by rw [to.1, if_pos z])
    by_cases c2 : v1 18 t n = nI p
    · simp only [n50, t50, ↓xh, ↓xst, ↓xrunE, ↓rG, rL, rSt, updA, List.elem_nil, List.elem_cons, Nat.reduceBEq, Bool.false_eq_true, if_false, if_true, true_and, and_true, true_or, or_true, not_false_eq_true, Nat.reduceAdd, Nat.reduceSub, Nat.reduceLeDiff, Nat.reduceEqDiff, Nat.reduceLT, ↓reduceIte, List.length_cons, List.length_nil, List.set_cons_zero, List.set_cons_succ, Nat.le_refl, Nat.zero_le, Nat.zero_sub, Nat.sub_zero, List.nil_append, List.cons_append, Option.toList_some, Option.toList_none, eq_self, g, i_n, ↓cRo h1 ht, c1, c2, nI_1]
      exact skip (rTc_no (Or.inr (Or.inr (Or.inr ((to.2 f).symm.trans c2)))))
    · simp only [n50, n56, t50, ↓xh, ↓xst, ↓xrunE, ↓rG, rL, rSt, updA, List.elem_nil, List.elem_cons, Nat.reduceBEq, Bool.false_eq_true, if_false, if_true, true_and, and_true, true_or, or_true, not_false_eq_true, Nat.reduceAdd, Nat.reduceSub, Nat.reduceLeDiff, Nat.reduceEqDiff, Nat.reduceLT, ↓reduceIte, List.length_cons, List.length_nil, List.set_cons_zero, List.set_cons_succ, Nat.le_refl, Nat.zero_le, Nat.zero_sub, Nat.sub_zero, List.nil_append, List.cons_append, Option.toList_some, Option.toList_none, eq_self, g, i_n, n8, ↓cRo h1 ht, ↓cRo h1 hr, c1, c2, ↓cEn h1 hr n8]
      refine ec56 (cEb h1 hr n8) (cEnC h1 hr n8) (fun M2 h2 => ?_)
      have st := cTt.stp hR hr ht n8 hp hm ho on tr p1 p2 c1 c2
      refine XZ.runH 60 [32, 86] ?_
      simp only [n50, t50, ↓xh, ↓xst, ↓xrunE, ↓rG, rL, rSt, updA, List.elem_nil, List.elem_cons, Nat.reduceBEq, Bool.false_eq_true, if_false, if_true, true_and, and_true, true_or, or_true, not_false_eq_true, Nat.reduceAdd, Nat.reduceSub, Nat.reduceLeDiff, Nat.reduceEqDiff, Nat.reduceLT, ↓reduceIte, List.length_cons, List.length_nil, List.set_cons_zero, List.set_cons_succ, Nat.le_refl, Nat.zero_le, Nat.zero_sub, Nat.sub_zero, List.nil_append, List.cons_append, Option.toList_some, Option.toList_none, eq_self, nI_1]
      exact ih (n + 1) M2 _ _ (by omega) (cEs h1 hr n8 h2) st.1 st.2.1 (by rw [st.2.2.2.2 6 (by decide)]; exact on) (by rw [st.2.2.2.has]; exact p1) (by rw [st.2.2.2.has]; exact p2) (fun M' v' h' t' => hq M' v' h' (st.tr t'))
set_option maxRecDepth 100000 in
set_option maxHeartbeats 4000000 in
theorem ml50 {r t : Nat} (hr : r < A 2 1) (ht : t < A 2 1) (tr : ¬ t = r) : ∀ l p M1 v1 s1 l4, p + l = 8 → cR E B M0 M1 A v1 → cM A v1 s1 → cTo A v1 s1 → ¬ s1.2 6 r = 0 → (∀ M' v', cR E B M0 M' A v' → cTt A v1 v' s1 (rTp r t l p s1) → Q none M' nx) →
    XZ E 50 (xZ E 50 Q) 2 [some (.ref (A 4 r)), some (.ref (A 4 t)), some (.int (nI t)), some (.int (nI p)), l4] [] M1 nx 0 0 := by
  intro l
  induction l with
  | zero =>
    intro p M1 v1 s1 l4 hp h1 hm ho on hq
    obtain rfl : p = 8 := by omega
    refine XZ.runH 60 [2] ?_
    simp only [n50, t50, ↓xh, ↓xst, ↓xrunE, ↓rG, rL, rSt, updA, List.elem_nil, List.elem_cons, Nat.reduceBEq, Bool.false_eq_true, if_false, if_true, true_and, and_true, true_or, or_true, not_false_eq_true, Nat.reduceAdd, Nat.reduceSub, Nat.reduceLeDiff, Nat.reduceEqDiff, Nat.reduceLT, ↓reduceIte, List.length_cons, List.length_nil, List.set_cons_zero, List.set_cons_succ, Nat.le_refl, Nat.zero_le, Nat.zero_sub, Nat.sub_zero, List.nil_append, List.cons_append, Option.toList_some, Option.toList_none, eq_self, show (8 : Int32) ≤ nI 8 by decide]
    exact hq M1 v1 h1 ⟨hm, ho, fun _ _ => rfl, rY.rf _⟩
  | succ l ih =>
    intro p M1 v1 s1 l4 hp h1 hm ho on hq
    have p8 : p < 8 := by omega
    have g : ¬ (8 : Int32) ≤ nI p := nI_ge (show p < 8 by omega) (by decide)
    have ip := nIx p8
    rw [rTp] at hq
    have q1 := (hm.2.1 r hr).2.2 p p8
    have q2 := (hm.2.1 t ht).2.2 p p8
    refine XZ.runH 60 [2, 32] ?_
    by_cases c1 : rHas s1 r p = true
    rotate_left
    · rw [rTn_no (Or.inl (by simpa using c1))] at hq
      rw [if_neg c1] at q1
      simp only [n50, t50, ↓xh, ↓xst, ↓xrunE, ↓rG, rL, rSt, updA, List.elem_nil, List.elem_cons, Nat.reduceBEq, Bool.false_eq_true, if_false, if_true, true_and, and_true, true_or, or_true, not_false_eq_true, Nat.reduceAdd, Nat.reduceSub, Nat.reduceLeDiff, Nat.reduceEqDiff, Nat.reduceLT, ↓reduceIte, List.length_cons, List.length_nil, List.set_cons_zero, List.set_cons_succ, Nat.le_refl, Nat.zero_le, Nat.zero_sub, Nat.sub_zero, List.nil_append, List.cons_append, Option.toList_some, Option.toList_none, eq_self, g, ip, ↓cRo h1 hr, q1, nI_1]
      exact ih (p + 1) M1 v1 s1 _ (by omega) h1 hm ho on hq
    rw [if_pos c1] at q1
    by_cases c2 : rHas s1 t p = true
    rotate_left
    · rw [rTn_no (Or.inr (by simpa using c2))] at hq
      rw [if_neg c2] at q2
      simp only [n50, t50, ↓xh, ↓xst, ↓xrunE, ↓rG, rL, rSt, updA, List.elem_nil, List.elem_cons, Nat.reduceBEq, Bool.false_eq_true, if_false, if_true, true_and, and_true, true_or, or_true, not_false_eq_true, Nat.reduceAdd, Nat.reduceSub, Nat.reduceLeDiff, Nat.reduceEqDiff, Nat.reduceLT, ↓reduceIte, List.length_cons, List.length_nil, List.set_cons_zero, List.set_cons_succ, Nat.le_refl, Nat.zero_le, Nat.zero_sub, Nat.sub_zero, List.nil_append, List.cons_append, Option.toList_some, Option.toList_none, eq_self, g, ip, ↓cRo h1 hr, ↓cRo h1 ht, q1, q2, show ¬ (1 : Int32) = 0 by decide, nI_1]
      exact ih (p + 1) M1 v1 s1 _ (by omega) h1 hm ho on hq
    rw [if_pos c2] at q2
    simp only [n50, t50, ↓xh, ↓xst, ↓xrunE, ↓rG, rL, rSt, updA, List.elem_nil, List.elem_cons, Nat.reduceBEq, Bool.false_eq_true, if_false, if_true, true_and, and_true, true_or, or_true, not_false_eq_true, Nat.reduceAdd, Nat.reduceSub, Nat.reduceLeDiff, Nat.reduceEqDiff, Nat.reduceLT, ↓reduceIte, List.length_cons, List.length_nil, List.set_cons_zero, List.set_cons_succ, Nat.le_refl, Nat.zero_le, Nat.zero_sub, Nat.sub_zero, List.nil_append, List.cons_append, Option.toList_some, Option.toList_none, eq_self, g, ip, ↓cRo h1 hr, ↓cRo h1 ht, q1, q2, show ¬ (1 : Int32) = 0 by decide]
    refine ml50k hr ht p8 tr 8 0 M1 v1 s1 (by omega) h1 hm ho on c1 c2 (fun M2 v2 h2 t2 => ?_)
    refine XZ.runH 60 [2] ?_
    simp only [n50, t50, ↓xh, ↓xst, ↓xrunE, ↓rG, rL, rSt, updA, List.elem_nil, List.elem_cons, Nat.reduceBEq, Bool.false_eq_true, if_false, if_true, true_and, and_true, true_or, or_true, not_false_eq_true, Nat.reduceAdd, Nat.reduceSub, Nat.reduceLeDiff, Nat.reduceEqDiff, Nat.reduceLT, ↓reduceIte, List.length_cons, List.length_nil, List.set_cons_zero, List.set_cons_succ, Nat.le_refl, Nat.zero_le, Nat.zero_sub, Nat.sub_zero, List.nil_append, List.cons_append, Option.toList_some, Option.toList_none, eq_self, nI_1]
    exact ih (p + 1) M2 v2 _ _ (by omega) h2 t2.1 t2.2.1 (by rw [t2.2.2.2.2 6 (by decide)]; exact on) (fun M' v' h' t' => hq M' v' h' (t2.tr t'))
set_option maxRecDepth 100000 in
set_option maxHeartbeats 4000000 in
theorem mc50 {r t : Nat} (h : cR E B M0 M A v) (hm : cM A v s) (ho : cTo A v s) (hr : r < A 2 1) (ht : t < A 2 1) (tr : ¬ t = r) (on : ¬ s.2 6 r = 0) (hq : ∀ M' v', cR E B M0 M' A v' → cTt A v v' s (rTp r t 8 0 s) → Q none M' nx) : XC E 50 [.ref (A 4 r), .ref (A 4 t), .int (nI t)] M nx Q := by
  refine XC.run 60 [2] ?_
  simp only [n50, t50, ↓xh, ↓xst, ↓xrunE, ↓rG, rL, rSt, updA, List.elem_nil, List.elem_cons, Nat.reduceBEq, Bool.false_eq_true, if_false, if_true, true_and, and_true, true_or, or_true, not_false_eq_true, Nat.reduceAdd, Nat.reduceSub, Nat.reduceLeDiff, Nat.reduceEqDiff, Nat.reduceLT, ↓reduceIte, List.length_cons, List.length_nil, List.set_cons_zero, List.set_cons_succ, Nat.le_refl, Nat.zero_le, Nat.zero_sub, Nat.sub_zero, List.nil_append, List.cons_append, Option.toList_some, Option.toList_none, eq_self]
  exact ml50 hr ht tr 8 0 M v s _ rfl h hm ho on hq
theorem rTn_self {s : rS} {r p : Nat} : ∀ l n, rTn r r p l n s = s
  | 0, _ => rfl
  | l + 1, n => by
    rw [rTn, show rTc s r r p n = false by simp [rTc]]
    simpa using rTn_self l (n + 1)
theorem rTp_self {s : rS} {r : Nat} : ∀ l p, rTp r r l p s = s
  | 0, _ => rfl
  | l + 1, p => by rw [rTp, rTn_self, rTp_self l (p + 1)]
set_option maxRecDepth 100000 in
set_option maxHeartbeats 4000000 in
theorem ml40s {r : Nat} (hr : r < A 2 1) : ∀ l t M1 v1 s1, t + l = A 2 1 → cR E B M0 M1 A v1 → cM A v1 s1 → cTo A v1 s1 → (∀ M' v', cR E B M0 M' A v' → cTt A v1 v' s1 (if s1.2 6 r = 0 then s1 else rTs r l t s1) → XZ E 40 (xZ E 40 Q) 59 [some (.ref (A 0 0 + 3)), some (.int (nI r)), some (.int (nI (A 2 1)))] [] M' nx 0 0) →
    XZ E 40 (xZ E 40 Q) 12 [some (.ref (A 0 0 + 3)), some (.int (nI r)), some (.int (nI t))] [] M1 nx 0 0 := by
  intro l
  induction l with
  | zero =>
    intro t M1 v1 s1 ht h1 hm ho hq
    obtain rfl : t = A 2 1 := by omega
    have hR := h1.1.2.2.1
    have e := eT (nI_le (Nat.le_refl (A 2 1)) (show A 2 1 < 2 ^ 31 by omega))
    refine XZ.runH 60 [12, 59] ?_
    simp only [n40, t40, ↓xh, ↓xst, ↓xrunE, ↓rG, rL, rSt, updA, List.elem_nil, List.elem_cons, Nat.reduceBEq, Bool.false_eq_true, if_false, if_true, true_and, and_true, true_or, or_true, not_false_eq_true, Nat.reduceAdd, Nat.reduceSub, Nat.reduceLeDiff, Nat.reduceEqDiff, Nat.reduceLT, ↓reduceIte, List.length_cons, List.length_nil, List.set_cons_zero, List.set_cons_succ, Nat.le_refl, Nat.zero_le, Nat.zero_sub, Nat.sub_zero, List.nil_append, List.cons_append, Option.toList_some, Option.toList_none, eq_self, ↓cFx h1, hm.1.2.1, e]
    refine hq M1 v1 h1 ?_
    rw [rTs]
    split <;> exact ⟨hm, ho, fun _ _ => rfl, rY.rf _⟩
  | succ l ih =>
    intro t M1 v1 s1 ht h1 hm ho hq
    have hR := h1.1.2.2.1
    have t1 : t < A 2 1 := by omega
    have e := eF (nI_ge t1 (show A 2 1 < 2 ^ 31 by omega))
    have it := nIx (show t < 6 by omega)
    have ir := nIx (show r < 6 by omega)
    have q1 := (hm.2.1 r hr).1
    rw [rTs] at hq
    refine XZ.runH 60 [12, 59] ?_
    by_cases c : t = r
    · subst c
      rw [rTp_self] at hq
      simp only [n40, t40, ↓xh, ↓xst, ↓xrunE, ↓rG, rL, rSt, updA, List.elem_nil, List.elem_cons, Nat.reduceBEq, Bool.false_eq_true, if_false, if_true, true_and, and_true, true_or, or_true, not_false_eq_true, Nat.reduceAdd, Nat.reduceSub, Nat.reduceLeDiff, Nat.reduceEqDiff, Nat.reduceLT, ↓reduceIte, List.length_cons, List.length_nil, List.set_cons_zero, List.set_cons_succ, Nat.le_refl, Nat.zero_le, Nat.zero_sub, Nat.sub_zero, List.nil_append, List.cons_append, Option.toList_some, Option.toList_none, eq_self, ↓cFx h1, hm.1.2.1, e, nI_1]
      exact ih (t + 1) M1 v1 s1 (by omega) h1 hm ho hq
    have c' : ¬ nI t = nI r := fun z => c (nI_inj (by omega) (by omega) z)
    by_cases on : s1.2 6 r = 0
    · rw [if_pos on] at hq
      simp only [n40, t40, ↓xh, ↓xst, ↓xrunE, ↓rG, rL, rSt, updA, List.elem_nil, List.elem_cons, Nat.reduceBEq, Bool.false_eq_true, if_false, if_true, true_and, and_true, true_or, or_true, not_false_eq_true, Nat.reduceAdd, Nat.reduceSub, Nat.reduceLeDiff, Nat.reduceEqDiff, Nat.reduceLT, ↓reduceIte, List.length_cons, List.length_nil, List.set_cons_zero, List.set_cons_succ, Nat.le_refl, Nat.zero_le, Nat.zero_sub, Nat.sub_zero, List.nil_append, List.cons_append, Option.toList_some, Option.toList_none, eq_self, ↓cFx h1, hm.1.2.1, e, c', ir, hr, ↓cRo h1 hr, q1, on, nI_1]
      exact ih (t + 1) M1 v1 s1 (by omega) h1 hm ho (by rw [if_pos on]; exact hq)
    · rw [if_neg on] at hq
      simp only [n40, n50, t40, ↓xh, ↓xst, ↓xrunE, ↓rG, rL, rSt, updA, List.elem_nil, List.elem_cons, Nat.reduceBEq, Bool.false_eq_true, if_false, if_true, true_and, and_true, true_or, or_true, not_false_eq_true, Nat.reduceAdd, Nat.reduceSub, Nat.reduceLeDiff, Nat.reduceEqDiff, Nat.reduceLT, ↓reduceIte, List.length_cons, List.length_nil, List.set_cons_zero, List.set_cons_succ, Nat.le_refl, Nat.zero_le, Nat.zero_sub, Nat.sub_zero, List.nil_append, List.cons_append, Option.toList_some, Option.toList_none, eq_self, ↓cFx h1, hm.1.2.1, e, c', ir, it, hr, t1, ↓cRo h1 hr, q1, on]
      refine mc50 h1 hm ho hr t1 c on (fun M2 v2 h2 t2 => ?_)
      have on2 : ¬ (rTp r t 8 0 s1).2 6 r = 0 := by rw [t2.2.2.2.2 6 (by decide)]; exact on
      refine XZ.runH 60 [12, 59] ?_
      simp only [n40, t40, ↓xh, ↓xst, ↓xrunE, ↓rG, rL, rSt, updA, List.elem_nil, List.elem_cons, Nat.reduceBEq, Bool.false_eq_true, if_false, if_true, true_and, and_true, true_or, or_true, not_false_eq_true, Nat.reduceAdd, Nat.reduceSub, Nat.reduceLeDiff, Nat.reduceEqDiff, Nat.reduceLT, ↓reduceIte, List.length_cons, List.length_nil, List.set_cons_zero, List.set_cons_succ, Nat.le_refl, Nat.zero_le, Nat.zero_sub, Nat.sub_zero, List.nil_append, List.cons_append, Option.toList_some, Option.toList_none, eq_self, nI_1]
      refine ih (t + 1) M2 v2 _ (by omega) h2 t2.1 t2.2.1 (fun M' v' h' t' => hq M' v' h' ?_)
      rw [if_neg on2] at t'
      exact t2.tr t'
set_option maxRecDepth 100000 in
set_option maxHeartbeats 4000000 in
theorem ml40 : ∀ l r M1 v1 s1 l2, r + l = A 2 1 → cR E B M0 M1 A v1 → cM A v1 s1 → cTo A v1 s1 → (∀ M' v', cR E B M0 M' A v' → cTt A v1 v' s1 (rTa (A 2 1) l r s1) → Q none M' nx) →
    XZ E 40 (xZ E 40 Q) 2 [some (.ref (A 0 0 + 3)), some (.int (nI r)), l2] [] M1 nx 0 0 := by
  intro l
  induction l with
  | zero =>
    intro r M1 v1 s1 l2 hr h1 hm ho hq
    obtain rfl : r = A 2 1 := by omega
    have hR := h1.1.2.2.1
    have e := eT (nI_le (Nat.le_refl (A 2 1)) (show A 2 1 < 2 ^ 31 by omega))
    refine XZ.runH 60 [2] ?_
    simp only [n40, t40, ↓xh, ↓xst, ↓xrunE, ↓rG, rL, rSt, updA, List.elem_nil, List.elem_cons, Nat.reduceBEq, Bool.false_eq_true, if_false, if_true, true_and, and_true, true_or, or_true, not_false_eq_true, Nat.reduceAdd, Nat.reduceSub, Nat.reduceLeDiff, Nat.reduceEqDiff, Nat.reduceLT, ↓reduceIte, List.length_cons, List.length_nil, List.set_cons_zero, List.set_cons_succ, Nat.le_refl, Nat.zero_le, Nat.zero_sub, Nat.sub_zero, List.nil_append, List.cons_append, Option.toList_some, Option.toList_none, eq_self, ↓cFx h1, hm.1.2.1, e]
    exact hq M1 v1 h1 ⟨hm, ho, fun _ _ => rfl, rY.rf _⟩
  | succ l ih =>
    intro r M1 v1 s1 l2 hr h1 hm ho hq
    have hR := h1.1.2.2.1
    have r1 : r < A 2 1 := by omega
    have e := eF (nI_ge r1 (show A 2 1 < 2 ^ 31 by omega))
    rw [rTa] at hq
    refine XZ.runH 60 [2, 12] ?_
    simp only [n40, t40, ↓xh, ↓xst, ↓xrunE, ↓rG, rL, rSt, updA, List.elem_nil, List.elem_cons, Nat.reduceBEq, Bool.false_eq_true, if_false, if_true, true_and, and_true, true_or, or_true, not_false_eq_true, Nat.reduceAdd, Nat.reduceSub, Nat.reduceLeDiff, Nat.reduceEqDiff, Nat.reduceLT, ↓reduceIte, List.length_cons, List.length_nil, List.set_cons_zero, List.set_cons_succ, Nat.le_refl, Nat.zero_le, Nat.zero_sub, Nat.sub_zero, List.nil_append, List.cons_append, Option.toList_some, Option.toList_none, eq_self, ↓cFx h1, hm.1.2.1, e]
    refine ml40s r1 (A 2 1) 0 M1 v1 s1 (by omega) h1 hm ho (fun M2 v2 h2 t2 => ?_)
    refine XZ.runH 60 [2] ?_
    simp only [n40, t40, ↓xh, ↓xst, ↓xrunE, ↓rG, rL, rSt, updA, List.elem_nil, List.elem_cons, Nat.reduceBEq, Bool.false_eq_true, if_false, if_true, true_and, and_true, true_or, or_true, not_false_eq_true, Nat.reduceAdd, Nat.reduceSub, Nat.reduceLeDiff, Nat.reduceEqDiff, Nat.reduceLT, ↓reduceIte, List.length_cons, List.length_nil, List.set_cons_zero, List.set_cons_succ, Nat.le_refl, Nat.zero_le, Nat.zero_sub, Nat.sub_zero, List.nil_append, List.cons_append, Option.toList_some, Option.toList_none, eq_self, nI_1]
    exact ih (r + 1) M2 v2 _ _ (by omega) h2 t2.1 t2.2.1 (fun M' v' h' t' => hq M' v' h' (t2.tr t'))
set_option maxRecDepth 100000 in
set_option maxHeartbeats 4000000 in
theorem mc40 (h : cR E B M0 M A v) (hm : cM A v s) (ho : cTo A v s) (hq : ∀ M' v', cR E B M0 M' A v' → cTt A v v' s (rTa (A 2 1) (A 2 1) 0 s) → Q none M' nx) : XC E 40 [.ref (A 0 0 + 3)] M nx Q := by
  refine XC.run 60 [2] ?_
  simp only [n40, t40, ↓xh, ↓xst, ↓xrunE, ↓rG, rL, rSt, updA, List.elem_nil, List.elem_cons, Nat.reduceBEq, Bool.false_eq_true, if_false, if_true, true_and, and_true, true_or, or_true, not_false_eq_true, Nat.reduceAdd, Nat.reduceSub, Nat.reduceLeDiff, Nat.reduceEqDiff, Nat.reduceLT, ↓reduceIte, List.length_cons, List.length_nil, List.set_cons_zero, List.set_cons_succ, Nat.le_refl, Nat.zero_le, Nat.zero_sub, Nat.sub_zero, List.nil_append, List.cons_append, Option.toList_some, Option.toList_none, eq_self]
  exact ml40 (A 2 1) 0 M v s _ (by omega) h hm ho hq
end TCK
