/-! tries, in the class -/
section TRY
variable {E : xE} {B nx : Nat} {M0 M : xM} {A : cA} {v : cV} {s : rS} {Q : Option Value → xM → Nat → Prop}
set_option maxRecDepth 100000 in
set_option maxHeartbeats 4000000 in
theorem ml64 {i c : Nat} (h : cR E B M0 M A v) (hi : i < A 2 2) (hc : c < A 2 3) : ∀ l k f l4, k + l = 8 → (∀ k', (cFd (fun k => v 11 (8 * i + k)) (v 22 c 0) (v 22 c 5) l k f).1 = some k' → Q (some (.ref (A 5 i + (3 + k')))) M nx) → ((cFd (fun k => v 11 (8 * i + k)) (v 22 c 0) (v 22 c 5) l k f).1 = none → ∀ l4, XZ E 64 (xZ E 64 Q) 65 [some (.ref (A 5 i)), some (.ref (A 6 c)), some (cFv A i (cFd (fun k => v 11 (8 * i + k)) (v 22 c 0) (v 22 c 5) l k f).2), some (.int (nI 8)), l4] [] M nx 0 0) →
    XZ E 64 (xZ E 64 Q) 4 [some (.ref (A 5 i)), some (.ref (A 6 c)), some (cFv A i f), some (.int (nI k)), l4] [] M nx 0 0 := by
  intro l
  induction l with
  | zero =>
    intro k f l4 hk q1 q2
    obtain rfl : k = 8 := by omega
    refine XZ.runH 60 [4, 65] ?_
    simp only [n64, t64, ↓xh, ↓xst, ↓xrunE, ↓rG, rL, rSt, updA, List.elem_nil, List.elem_cons, Nat.reduceBEq, Bool.false_eq_true, if_false, if_true, true_and, and_true, true_or, or_true, not_false_eq_true, Nat.reduceAdd, Nat.reduceSub, Nat.reduceLeDiff, Nat.reduceEqDiff, Nat.reduceLT, ↓reduceIte, List.length_cons, List.length_nil, List.set_cons_zero, List.set_cons_succ, Nat.le_refl, Nat.zero_le, Nat.zero_sub, Nat.sub_zero, List.nil_append, List.cons_append, Option.toList_some, Option.toList_none, eq_self, show (8 : Int32) ≤ nI 8 by decide]
    exact q2 rfl l4
  | succ l ih =>
    intro k f l4 hk q1 q2
    have k8 : k < 8 := by omega
    have g : ¬ (8 : Int32) ≤ nI k := nI_ge (show k < 8 by omega) (by decide)
    have ik := nIx k8
    rw [cFd] at q1 q2
    refine XZ.runH 60 [4, 65] ?_
    by_cases c0 : v 11 (8 * i + k) 0 = 0
    · rw [if_pos c0] at q1 q2
      simp only [n64, t64, ↓xh, ↓xst, ↓xrunE, ↓rG, rL, rSt, updA, List.elem_nil, List.elem_cons, Nat.reduceBEq, Bool.false_eq_true, if_false, if_true, true_and, and_true, true_or, or_true, not_false_eq_true, Nat.reduceAdd, Nat.reduceSub, Nat.reduceLeDiff, Nat.reduceEqDiff, Nat.reduceLT, ↓reduceIte, List.length_cons, List.length_nil, List.set_cons_zero, List.set_cons_succ, Nat.le_refl, Nat.zero_le, Nat.zero_sub, Nat.sub_zero, List.nil_append, List.cons_append, Option.toList_some, Option.toList_none, eq_self, g, ik, k8, ↓cSv h hi, ↓cLi h hi k8, c0, nI_1]
      exact ih (k + 1) (some k) _ (by omega) q1 q2
    rw [if_neg c0] at q1 q2
    by_cases c1 : v 11 (8 * i + k) 1 = v 22 c 0
    · by_cases c2 : v 11 (8 * i + k) 2 = v 22 c 5
      · rw [if_pos ⟨c1, c2⟩] at q1 q2
        simp only [n64, t64, ↓xh, ↓xst, ↓xrunE, ↓rG, rL, rSt, updA, List.elem_nil, List.elem_cons, Nat.reduceBEq, Bool.false_eq_true, if_false, if_true, true_and, and_true, true_or, or_true, not_false_eq_true, Nat.reduceAdd, Nat.reduceSub, Nat.reduceLeDiff, Nat.reduceEqDiff, Nat.reduceLT, ↓reduceIte, List.length_cons, List.length_nil, List.set_cons_zero, List.set_cons_succ, Nat.le_refl, Nat.zero_le, Nat.zero_sub, Nat.sub_zero, List.nil_append, List.cons_append, Option.toList_some, Option.toList_none, eq_self, g, ik, k8, ↓cSv h hi, ↓cLi h hi k8, ↓cSe h hc, c0, c1, c2]
        exact q1 k rfl
      · rw [if_neg (fun z => c2 z.2)] at q1 q2
        simp only [n64, t64, ↓xh, ↓xst, ↓xrunE, ↓rG, rL, rSt, updA, List.elem_nil, List.elem_cons, Nat.reduceBEq, Bool.false_eq_true, if_false, if_true, true_and, and_true, true_or, or_true, not_false_eq_true, Nat.reduceAdd, Nat.reduceSub, Nat.reduceLeDiff, Nat.reduceEqDiff, Nat.reduceLT, ↓reduceIte, List.length_cons, List.length_nil, List.set_cons_zero, List.set_cons_succ, Nat.le_refl, Nat.zero_le, Nat.zero_sub, Nat.sub_zero, List.nil_append, List.cons_append, Option.toList_some, Option.toList_none, eq_self, g, ik, k8, ↓cSv h hi, ↓cLi h hi k8, ↓cSe h hc, c0, c1, c2, nI_1]
        exact ih (k + 1) f _ (by omega) q1 q2
    · rw [if_neg (fun z => c1 z.1)] at q1 q2
      simp only [n64, t64, ↓xh, ↓xst, ↓xrunE, ↓rG, rL, rSt, updA, List.elem_nil, List.elem_cons, Nat.reduceBEq, Bool.false_eq_true, if_false, if_true, true_and, and_true, true_or, or_true, not_false_eq_true, Nat.reduceAdd, Nat.reduceSub, Nat.reduceLeDiff, Nat.reduceEqDiff, Nat.reduceLT, ↓reduceIte, List.length_cons, List.length_nil, List.set_cons_zero, List.set_cons_succ, Nat.le_refl, Nat.zero_le, Nat.zero_sub, Nat.sub_zero, List.nil_append, List.cons_append, Option.toList_some, Option.toList_none, eq_self, g, ik, k8, ↓cSv h hi, ↓cLi h hi k8, ↓cSe h hc, c0, c1, nI_1]
      exact ih (k + 1) f _ (by omega) q1 q2
set_option maxRecDepth 100000 in
set_option maxHeartbeats 4000000 in
theorem mc64 {i c q : Nat} (h : cR E B M0 M A v) (hi : i < A 2 2) (hc : c < A 2 3) (hq8 : q < 8) (e7 : v 22 c 7 = nI q)
    (q1 : ∀ k, (cFd (fun k => v 11 (8 * i + k)) (v 22 c 0) (v 22 c 5) 8 0 none).1 = some k → Q (some (.ref (A 5 i + (3 + k)))) M nx)
    (q2 : (cFd (fun k => v 11 (8 * i + k)) (v 22 c 0) (v 22 c 5) 8 0 none).1 = none → (cFd (fun k => v 11 (8 * i + k)) (v 22 c 0) (v 22 c 5) 8 0 none).2 = none → Q (some .null) M nx)
    (q3 : ∀ k, k < 8 → (cFd (fun k => v 11 (8 * i + k)) (v 22 c 0) (v 22 c 5) 8 0 none).1 = none → (cFd (fun k => v 11 (8 * i + k)) (v 22 c 0) (v 22 c 5) 8 0 none).2 = some k → ∀ M', cR E B M0 M' A (cCr v i k (w [v 19 i 0, 0, 0, v 19 i 3, 0, v 19 i 5 + 1]) (if q ≤ 3 then v 20 i else upd (v 20 i) (q % 4) (v 22 c 8)) (w [1, v 22 c 0, v 22 c 5, v 20 i (q % 4), v 11 (8 * i + k) 4])) → Q (some (.ref (A 5 i + (3 + k)))) M' nx) :
    XC E 64 [.ref (A 5 i), .ref (A 6 c)] M nx Q := by
  refine XC.run 60 [4] ?_
  simp only [n64, t64, ↓xh, ↓xst, ↓xrunE, ↓rG, rL, rSt, updA, List.elem_nil, List.elem_cons, Nat.reduceBEq, Bool.false_eq_true, if_false, if_true, true_and, and_true, true_or, or_true, not_false_eq_true, Nat.reduceAdd, Nat.reduceSub, Nat.reduceLeDiff, Nat.reduceEqDiff, Nat.reduceLT, ↓reduceIte, List.length_cons, List.length_nil, List.set_cons_zero, List.set_cons_succ, Nat.le_refl, Nat.zero_le, Nat.zero_sub, Nat.sub_zero, List.nil_append, List.cons_append, Option.toList_some, Option.toList_none, eq_self]
  refine ml64 h hi hc 8 0 none none rfl q1 (fun z l4 => ?_)
  cases hf : (cFd (fun k => v 11 (8 * i + k)) (v 22 c 0) (v 22 c 5) 8 0 none).2 with
  | none =>
    refine XZ.runH 60 [] ?_
    simp only [n64, t64, ↓xh, ↓xst, ↓xrunE, ↓rG, rL, rSt, updA, List.elem_nil, List.elem_cons, Nat.reduceBEq, Bool.false_eq_true, if_false, if_true, true_and, and_true, true_or, or_true, not_false_eq_true, Nat.reduceAdd, Nat.reduceSub, Nat.reduceLeDiff, Nat.reduceEqDiff, Nat.reduceLT, ↓reduceIte, List.length_cons, List.length_nil, List.set_cons_zero, List.set_cons_succ, Nat.le_refl, Nat.zero_le, Nat.zero_sub, Nat.sub_zero, List.nil_append, List.cons_append, Option.toList_some, Option.toList_none, eq_self, cFv]
    exact q2 z hf
  | some k =>
    have k8 : k < 8 := by
      rcases (cFd_n 8 0 none z).2.2 k hf with b | b
      · exact absurd b (by simp)
      · omega
    have hb := cLb h hi k8
    have x1 : (8 * i + k : Nat) = 8 * i + k := rfl
    refine XZ.runH 60 [74, 82, 90, 106] ?_
    simp only [n64, t64, ↓xh, ↓xst, ↓xrunE, ↓rG, rL, rSt, updA, List.elem_nil, List.elem_cons, Nat.reduceBEq, Bool.false_eq_true, if_false, if_true, true_and, and_true, true_or, or_true, not_false_eq_true, Nat.reduceAdd, Nat.reduceSub, Nat.reduceLeDiff, Nat.reduceEqDiff, Nat.reduceLT, ↓reduceIte, List.length_cons, List.length_nil, List.set_cons_zero, List.set_cons_succ, Nat.le_refl, Nat.zero_le, Nat.zero_sub, Nat.sub_zero, List.nil_append, List.cons_append, Option.toList_some, Option.toList_none, eq_self, cFv, show ¬ (some (A 5 i + (3 + k)) = none) by simp, ↓cLi h hi k8, hb]
    refine XZ.abs2 (P := fun M' => cR E B M0 M' A (uv v 11 (8 * i + k) (w [1, v 11 (8 * i + k) 1, v 11 (8 * i + k) 2, v 11 (8 * i + k) 3, v 11 (8 * i + k) 4]))) (cLs h hi k8 (jN_put M _ (lC (w [1, v 11 (8 * i + k) 1, v 11 (8 * i + k) 2, v 11 (8 * i + k) 3, v 11 (8 * i + k) 4])))) (fun M1 h1 => ?_)
    have s1 := cSe h1 hc
    have l1 := cLi h1 hi k8
    simp only [uv_k (show (22 : Nat) ≠ 11 by decide), uv_s, w, List.getD_cons_zero, List.getD_cons_succ] at s1 l1
    refine XZ.runH 60 [74, 82, 90, 106] ?_
    simp only [n64, t64, ↓xh, ↓xst, ↓xrunE, ↓rG, rL, rSt, updA, List.elem_nil, List.elem_cons, Nat.reduceBEq, Bool.false_eq_true, if_false, if_true, true_and, and_true, true_or, or_true, not_false_eq_true, Nat.reduceAdd, Nat.reduceSub, Nat.reduceLeDiff, Nat.reduceEqDiff, Nat.reduceLT, ↓reduceIte, List.length_cons, List.length_nil, List.set_cons_zero, List.set_cons_succ, Nat.le_refl, Nat.zero_le, Nat.zero_sub, Nat.sub_zero, List.nil_append, List.cons_append, Option.toList_some, Option.toList_none, eq_self, ↓s1, ↓l1, hb]
    refine XZ.abs2 (P := fun M' => cR E B M0 M' A (uv v 11 (8 * i + k) (w [1, v 22 c 0, v 11 (8 * i + k) 2, v 11 (8 * i + k) 3, v 11 (8 * i + k) 4]))) (by have := cLs h1 hi k8 (jN_put M1 _ (lC (w [1, v 22 c 0, v 11 (8 * i + k) 2, v 11 (8 * i + k) 3, v 11 (8 * i + k) 4]))); rw [uv_uv] at this; exact this) (fun M2 h2 => ?_)
    have s2 := cSe h2 hc
    have l2 := cLi h2 hi k8
    simp only [uv_k (show (22 : Nat) ≠ 11 by decide), uv_s, w, List.getD_cons_zero, List.getD_cons_succ] at s2 l2
    refine XZ.runH 60 [74, 82, 90, 106] ?_
    simp only [n64, t64, ↓xh, ↓xst, ↓xrunE, ↓rG, rL, rSt, updA, List.elem_nil, List.elem_cons, Nat.reduceBEq, Bool.false_eq_true, if_false, if_true, true_and, and_true, true_or, or_true, not_false_eq_true, Nat.reduceAdd, Nat.reduceSub, Nat.reduceLeDiff, Nat.reduceEqDiff, Nat.reduceLT, ↓reduceIte, List.length_cons, List.length_nil, List.set_cons_zero, List.set_cons_succ, Nat.le_refl, Nat.zero_le, Nat.zero_sub, Nat.sub_zero, List.nil_append, List.cons_append, Option.toList_some, Option.toList_none, eq_self, ↓s2, ↓l2, hb]
    refine XZ.abs2 (P := fun M' => cR E B M0 M' A (uv v 11 (8 * i + k) (w [1, v 22 c 0, v 22 c 5, v 11 (8 * i + k) 3, v 11 (8 * i + k) 4]))) (by have := cLs h2 hi k8 (jN_put M2 _ (lC (w [1, v 22 c 0, v 22 c 5, v 11 (8 * i + k) 3, v 11 (8 * i + k) 4]))); rw [uv_uv] at this; exact this) (fun M3 h3 => ?_)
    have s3 := cSe h3 hc
    simp only [uv_k (show (22 : Nat) ≠ 11 by decide)] at s3
    refine XZ.runH 60 [74, 82, 90, 106] ?_
    simp only [n64, n66, t64, ↓xh, ↓xst, ↓xrunE, ↓rG, rL, rSt, updA, List.elem_nil, List.elem_cons, Nat.reduceBEq, Bool.false_eq_true, if_false, if_true, true_and, and_true, true_or, or_true, not_false_eq_true, Nat.reduceAdd, Nat.reduceSub, Nat.reduceLeDiff, Nat.reduceEqDiff, Nat.reduceLT, ↓reduceIte, List.length_cons, List.length_nil, List.set_cons_zero, List.set_cons_succ, Nat.le_refl, Nat.zero_le, Nat.zero_sub, Nat.sub_zero, List.nil_append, List.cons_append, Option.toList_some, Option.toList_none, eq_self, ↓s3, ↓cSv h3 hi, e7]
    refine mc66 h3 hi hq8 (fun M4 h4 => ?_)
    simp only [uv_k (show (19 : Nat) ≠ 11 by decide), uv_k (show (20 : Nat) ≠ 11 by decide)] at h4
    have l4' := cLi h4 hi k8
    simp only [uv_k (show (11 : Nat) ≠ 20 by decide), uv_k (show (11 : Nat) ≠ 19 by decide), uv_s, w, List.getD_cons_zero, List.getD_cons_succ] at l4'
    refine XZ.runH 60 [74, 82, 90, 106] ?_
    simp only [n64, t64, ↓xh, ↓xst, ↓xrunE, ↓rG, rL, rSt, updA, List.elem_nil, List.elem_cons, Nat.reduceBEq, Bool.false_eq_true, if_false, if_true, true_and, and_true, true_or, or_true, not_false_eq_true, Nat.reduceAdd, Nat.reduceSub, Nat.reduceLeDiff, Nat.reduceEqDiff, Nat.reduceLT, ↓reduceIte, List.length_cons, List.length_nil, List.set_cons_zero, List.set_cons_succ, Nat.le_refl, Nat.zero_le, Nat.zero_sub, Nat.sub_zero, List.nil_append, List.cons_append, Option.toList_some, Option.toList_none, eq_self, ↓l4', hb, uv_k (show (20 : Nat) ≠ 11 by decide)]
    refine XZ.abs2 (P := fun M' => cR E B M0 M' A (cCr v i k (w [v 19 i 0, 0, 0, v 19 i 3, 0, v 19 i 5 + 1]) (if q ≤ 3 then v 20 i else upd (v 20 i) (q % 4) (v 22 c 8)) (w [1, v 22 c 0, v 22 c 5, v 20 i (q % 4), v 11 (8 * i + k) 4]))) ?_ (fun M5 h5 => ?_)
    · have := cLs h4 hi k8 (jN_put M4 _ (lC (w [1, v 22 c 0, v 22 c 5, v 20 i (q % 4), v 11 (8 * i + k) 4])))
      have ee : uv (uv (uv (uv v 11 (8 * i + k) (w [1, v 22 c 0, v 22 c 5, v 11 (8 * i + k) 3, v 11 (8 * i + k) 4])) 19 i (w [v 19 i 0, 0, 0, v 19 i 3, 0, v 19 i 5 + 1])) 20 i (if q ≤ 3 then v 20 i else upd (v 20 i) (q % 4) (v 22 c 8))) 11 (8 * i + k) (w [1, v 22 c 0, v 22 c 5, v 20 i (q % 4), v 11 (8 * i + k) 4]) = cCr v i k (w [v 19 i 0, 0, 0, v 19 i 3, 0, v 19 i 5 + 1]) (if q ≤ 3 then v 20 i else upd (v 20 i) (q % 4) (v 22 c 8)) (w [1, v 22 c 0, v 22 c 5, v 20 i (q % 4), v 11 (8 * i + k) 4]) := by
        unfold cCr
        funext kd x
        unfold uv
        by_cases y : kd = 11 ∧ x = 8 * i + k
        · rw [if_pos y, if_pos y]
        · rw [if_neg y, if_neg y, if_neg y]
      rw [ee] at this
      exact this
    · refine XZ.runH 60 [] ?_
      simp only [n64, t64, ↓xh, ↓xst, ↓xrunE, ↓rG, rL, rSt, updA, List.elem_nil, List.elem_cons, Nat.reduceBEq, Bool.false_eq_true, if_false, if_true, true_and, and_true, true_or, or_true, not_false_eq_true, Nat.reduceAdd, Nat.reduceSub, Nat.reduceLeDiff, Nat.reduceEqDiff, Nat.reduceLT, ↓reduceIte, List.length_cons, List.length_nil, List.set_cons_zero, List.set_cons_succ, Nat.le_refl, Nat.zero_le, Nat.zero_sub, Nat.sub_zero, List.nil_append, List.cons_append, Option.toList_some, Option.toList_none, eq_self]
      exact q3 k k8 z hf M5 h5
/-- other kinds are kept by a try -/
def kF (v v' : cV) : Prop := ∀ kd, kd ≠ 9 → kd ≠ 11 → kd ≠ 19 → kd ≠ 20 → kd ≠ 22 → v' kd = v kd
theorem kF.rf (v : cV) : kF v v := fun _ _ _ _ _ _ => rfl
theorem kF.tr {a b c : cV} (h : kF a b) (g : kF b c) : kF a c := fun kd h1 h2 h3 h4 h5 => (g kd h1 h2 h3 h4 h5).trans (h kd h1 h2 h3 h4 h5)
theorem kF.uv {v : cV} {kd i : Nat} {g : Nat → Int32} (h : kd = 9 ∨ kd = 11 ∨ kd = 19 ∨ kd = 20 ∨ kd = 22) : kF v (uv v kd i g) := fun kd' h1 h2 h3 h4 h5 => uv_k (by omega)
set_option maxRecDepth 100000 in
set_option maxHeartbeats 4000000 in
theorem ml31 {c a b : Nat} (hc : c < A 2 3) (ha : a < 8) (hb : b < 8) : ∀ l p M1 v1 s1 l3, p + l = 8 → cR E B M0 M1 A v1 → cQ A v1 s1 → rCn s1 c = a → rHm s1 (A 10 c) = b → (∀ M' v', cR E B M0 M' A v' → cQ A v' (rLk (A 2 1) c a b l p s1) → (∀ kd, kd ≠ 9 → kd ≠ 22 → v' kd = v1 kd) → Q none M' nx) →
    XZ E 31 (xZ E 31 Q) 2 [some (.ref (A 0 0)), some (.ref (A 6 c)), some (.int (nI p)), l3] [] M1 nx 0 0 := by
  intro l
  induction l with
  | zero =>
    intro p M1 v1 s1 l3 hp h1 hm e1 e2 hq
    obtain rfl : p = 8 := by omega
    refine XZ.runH 60 [2] ?_
    simp only [n31, t31, ↓xh, ↓xst, ↓xrunE, ↓rG, rL, rSt, updA, List.elem_nil, List.elem_cons, Nat.reduceBEq, Bool.false_eq_true, if_false, if_true, true_and, and_true, true_or, or_true, not_false_eq_true, Nat.reduceAdd, Nat.reduceSub, Nat.reduceLeDiff, Nat.reduceEqDiff, Nat.reduceLT, ↓reduceIte, List.length_cons, List.length_nil, List.set_cons_zero, List.set_cons_succ, Nat.le_refl, Nat.zero_le, Nat.zero_sub, Nat.sub_zero, List.nil_append, List.cons_append, Option.toList_some, Option.toList_none, eq_self, show (8 : Int32) ≤ nI 8 by decide]
    exact hq M1 v1 h1 hm (fun _ _ _ => rfl)
  | succ l ih =>
    intro p M1 v1 s1 l3 hp h1 hm e1 e2 hq
    have p8 : p < 8 := by omega
    have g : ¬ (8 : Int32) ≤ nI p := nI_ge (show p < 8 by omega) (by decide)
    have iS := h1.1.2.2.2.2.2 c hc
    obtain ⟨⟨k0, k1, k2, k3⟩, ⟨f3, f4, f5, f6, f7, f8, f9, f10, f11, f12⟩, b28, b29, ⟨m, hm256, em⟩, b32⟩ := hm.2.2.2.2 c hc
    have sv := hm.2.2.2.1 (A 10 c) iS
    have f9' := f9.trans em
    rw [e1] at k1
    have s0 := sv.1
    rw [e2] at s0
    rw [rLk, em] at hq
    have ba := bt_and p p8 m hm256
    refine XZ.runH 60 [2] ?_
    by_cases bt : rBit (nI m) p = true
    rotate_left
    · rw [if_neg bt] at hq
      have z := ba.mpr bt
      simp only [n31, t31, ↓xh, ↓xst, ↓xrunE, ↓rG, rL, rSt, updA, List.elem_nil, List.elem_cons, Nat.reduceBEq, Bool.false_eq_true, if_false, if_true, true_and, and_true, true_or, or_true, not_false_eq_true, Nat.reduceAdd, Nat.reduceSub, Nat.reduceLeDiff, Nat.reduceEqDiff, Nat.reduceLT, ↓reduceIte, List.length_cons, List.length_nil, List.set_cons_zero, List.set_cons_succ, Nat.le_refl, Nat.zero_le, Nat.zero_sub, Nat.sub_zero, List.nil_append, List.cons_append, Option.toList_some, Option.toList_none, eq_self, g, ↓cSe h1 hc, f9', z, nI_1]
      exact ih (p + 1) M1 v1 s1 _ (by omega) h1 hm e1 e2 hq
    rw [if_pos bt] at hq
    have z : ¬ nI m &&& ((1 : Int32) <<< (nI p &&& 31)) = 0 := fun y => ba.mp y bt
    simp only [n31, n59, t31, ↓xh, ↓xst, ↓xrunE, ↓rG, rL, rSt, updA, List.elem_nil, List.elem_cons, Nat.reduceBEq, Bool.false_eq_true, if_false, if_true, true_and, and_true, true_or, or_true, not_false_eq_true, Nat.reduceAdd, Nat.reduceSub, Nat.reduceLeDiff, Nat.reduceEqDiff, Nat.reduceLT, ↓reduceIte, List.length_cons, List.length_nil, List.set_cons_zero, List.set_cons_succ, Nat.le_refl, Nat.zero_le, Nat.zero_sub, Nat.sub_zero, List.nil_append, List.cons_append, Option.toList_some, Option.toList_none, eq_self, g, ↓cSe h1 hc, f9', z, ↓cFx h1, ↓cSv h1 iS, s0, k1]
    refine mc59 h1 hm hb ha (fun M2 v2 h2 m2 kk => ?_)
    have e22 : v2 22 = v1 22 := kk 22 (by decide)
    refine XZ.runH 60 [2, 52] ?_
    by_cases got : rGot s1 (A 2 1) b a = true
    · rw [if_pos got] at hq ⊢
      have bs := bt_sub p p8 m hm256 bt
      obtain ⟨m', hm', em'⟩ := bt_lt p p8 m hm256
      have hbd : xb E ≤ A 6 c := h2.1.lo (kd := 22) (i := c) hc
      simp only [n31, t31, ↓xh, ↓xst, ↓xrunE, ↓rG, rL, rSt, updA, List.elem_nil, List.elem_cons, Nat.reduceBEq, Bool.false_eq_true, if_false, if_true, true_and, and_true, true_or, or_true, not_false_eq_true, Nat.reduceAdd, Nat.reduceSub, Nat.reduceLeDiff, Nat.reduceEqDiff, Nat.reduceLT, ↓reduceIte, List.length_cons, List.length_nil, List.set_cons_zero, List.set_cons_succ, Nat.le_refl, Nat.zero_le, Nat.zero_sub, Nat.sub_zero, List.nil_append, List.cons_append, Option.toList_some, Option.toList_none, eq_self, show ¬ (1 : Int32) = 0 by decide, ↓cSe h2 hc, e22, f9', bs, hbd]
      refine XZ.abs2 (P := fun M' => cR E B M0 M' A (uv v2 22 c (w [v2 22 c 0, v2 22 c 1, 0, v2 22 c 3, v2 22 c 4, v2 22 c 5, v2 22 c 6, v2 22 c 7, v2 22 c 8, nI m &&& ((1 <<< (nI p &&& 31)) ^^^ -1), v2 22 c 10, v2 22 c 11, v2 22 c 12]))) (by rw [e22]; exact h2.pw 22 c hc _ rfl rfl) (fun M3 h3 => ?_)
      refine XZ.runH 60 [2] ?_
      simp only [n31, t31, ↓xh, ↓xst, ↓xrunE, ↓rG, rL, rSt, updA, List.elem_nil, List.elem_cons, Nat.reduceBEq, Bool.false_eq_true, if_false, if_true, true_and, and_true, true_or, or_true, not_false_eq_true, Nat.reduceAdd, Nat.reduceSub, Nat.reduceLeDiff, Nat.reduceEqDiff, Nat.reduceLT, ↓reduceIte, List.length_cons, List.length_nil, List.set_cons_zero, List.set_cons_succ, Nat.le_refl, Nat.zero_le, Nat.zero_sub, Nat.sub_zero, List.nil_append, List.cons_append, Option.toList_some, Option.toList_none, eq_self, nI_1]
      have q3 := m2.mis (x := nI m &&& ((1 <<< (nI p &&& 31)) ^^^ -1)) hc hm' em'
      exact ih (p + 1) M3 _ _ _ (by omega) h3 q3 (by rw [← e1]; unfold rCn; simp [up2, rPk]) (by rw [← e2]; unfold rHm; simp [up2, rPk]) (fun M' v' h' m' k' => hq M' v' h' m' (fun kd a b => (k' kd a b).trans ((uv_k b).trans (kk kd a))))
    · rw [if_neg got] at hq ⊢
      simp only [n31, t31, ↓xh, ↓xst, ↓xrunE, ↓rG, rL, rSt, updA, List.elem_nil, List.elem_cons, Nat.reduceBEq, Bool.false_eq_true, if_false, if_true, true_and, and_true, true_or, or_true, not_false_eq_true, Nat.reduceAdd, Nat.reduceSub, Nat.reduceLeDiff, Nat.reduceEqDiff, Nat.reduceLT, ↓reduceIte, List.length_cons, List.length_nil, List.set_cons_zero, List.set_cons_succ, Nat.le_refl, Nat.zero_le, Nat.zero_sub, Nat.sub_zero, List.nil_append, List.cons_append, Option.toList_some, Option.toList_none, eq_self]
      refine XZ.runH 60 [2] ?_
      simp only [n31, t31, ↓xh, ↓xst, ↓xrunE, ↓rG, rL, rSt, updA, List.elem_nil, List.elem_cons, Nat.reduceBEq, Bool.false_eq_true, if_false, if_true, true_and, and_true, true_or, or_true, not_false_eq_true, Nat.reduceAdd, Nat.reduceSub, Nat.reduceLeDiff, Nat.reduceEqDiff, Nat.reduceLT, ↓reduceIte, List.length_cons, List.length_nil, List.set_cons_zero, List.set_cons_succ, Nat.le_refl, Nat.zero_le, Nat.zero_sub, Nat.sub_zero, List.nil_append, List.cons_append, Option.toList_some, Option.toList_none, eq_self, nI_1]
      exact ih (p + 1) M2 v2 _ _ (by omega) h2 m2 e1 e2 (fun M' v' h' m' k' => hq M' v' h' m' (fun kd a b => (k' kd a b).trans (kk kd a)))
set_option maxRecDepth 100000 in
set_option maxHeartbeats 4000000 in
theorem mc31 {c a b : Nat} (h : cR E B M0 M A v) (hm : cQ A v s) (hc : c < A 2 3) (ha : a < 8) (hb : b < 8) (e1 : rCn s c = a) (e2 : rHm s (A 10 c) = b) (hq : ∀ M' v', cR E B M0 M' A v' → cQ A v' (rLk (A 2 1) c a b 8 0 s) → (∀ kd, kd ≠ 9 → kd ≠ 22 → v' kd = v kd) → Q none M' nx) : XC E 31 [.ref (A 0 0), .ref (A 6 c)] M nx Q := by
  refine XC.run 60 [2] ?_
  simp only [n31, t31, ↓xh, ↓xst, ↓xrunE, ↓rG, rL, rSt, updA, List.elem_nil, List.elem_cons, Nat.reduceBEq, Bool.false_eq_true, if_false, if_true, true_and, and_true, true_or, or_true, not_false_eq_true, Nat.reduceAdd, Nat.reduceSub, Nat.reduceLeDiff, Nat.reduceEqDiff, Nat.reduceLT, ↓reduceIte, List.length_cons, List.length_nil, List.set_cons_zero, List.set_cons_succ, Nat.le_refl, Nat.zero_le, Nat.zero_sub, Nat.sub_zero, List.nil_append, List.cons_append, Option.toList_some, Option.toList_none, eq_self]
  exact ml31 hc ha hb 8 0 M v s _ rfl h hm e1 e2 hq
end TRY
