/-! a router: turned, telling, taking -/
/-- the entries below k of router r are turned -/
def cTf (v v' : cV) (r : Nat) (y : Int32) (k : Nat) : Prop := (∀ kd, kd ≠ 10 → kd ≠ 14 → v' kd = v kd) ∧ (∀ r', r' ≠ r → v' 14 r' = v 14 r') ∧ (v' 14 r 1 = v 14 r 1 ∧ v' 14 r 2 = y) ∧ (∀ i, ¬ (8 * r ≤ i ∧ i < 8 * r + k) → v' 10 i = v 10 i) ∧ ∀ n, n < k → v' 10 (8 * r + n) = if ¬ y = 0 ∧ ¬ v 15 r n = 0 then cOw n (v 10 (8 * r + n)) else cRm (v 10 (8 * r + n))
theorem cTf.st {v v1 : cV} {r k : Nat} {y : Int32} {g : Nat → Int32} (h : cTf v v1 r y k) (hg : g = if ¬ y = 0 ∧ ¬ v 15 r k = 0 then cOw k (v1 10 (8 * r + k)) else cRm (v1 10 (8 * r + k))) : cTf v (uv v1 10 (8 * r + k) g) r y (k + 1) := by
  obtain ⟨h1, h2, h3, h4, h5⟩ := h
  refine ⟨fun kd a b => by rw [uv_k a]; exact h1 kd a b, fun r' hr' => by rw [uv_k (by decide)]; exact h2 r' hr', by rw [uv_k (by decide)]; exact h3, fun i hi => ?_, fun n hn => ?_⟩
  · rw [uv_n (by omega)]
    exact h4 i (by omega)
  · by_cases e : n = k
    · subst e
      rw [uv_s, hg, h4 (8 * r + n) (by omega)]
    · rw [uv_n (by omega)]
      exact h5 n (by omega)
/-- what router r tells, below k -/
def cTl (v v' : cV) (s : rS) (r k : Nat) : Prop := (∀ kd, kd ≠ 17 → kd ≠ 18 → v' kd = v kd) ∧ (∀ r', r' ≠ r → v' 17 r' = v 17 r' ∧ v' 18 r' = v 18 r') ∧ ∀ n, n < k → v' 17 r n = (if s.2 7 (8 * r + n) < 0 then -1 else if s.2 10 (8 * r + n) = 2 then 16 else s.2 7 (8 * r + n)) ∧ (¬ s.2 7 (8 * r + n) < 0 → v' 18 r n = s.2 9 (8 * r + n))
theorem sumE_mono (s : rS) (a : Nat) : ∀ b, sumE s a ≤ sumE s (a + b)
  | 0 => Nat.le_refl _
  | b + 1 => by
    have := sumE_mono s a b
    rw [show a + (b + 1) = a + b + 1 by omega, sumE]
    omega
section RTR
variable {E : xE} {B nx : Nat} {M0 M : xM} {A : cA} {v : cV} {s : rS} {Q : Option Value → xM → Nat → Prop}
theorem cEb (h : cR E B M0 M A v) {r k : Nat} (hr : r < A 2 1) (hk : k < 8) : xb E ≤ A 4 r + (5 + k) := cad10 A hk ▸ h.1.lo (clv10 hr hk)
theorem cEs (h : cR E B M0 M A v) {r k : Nat} (hr : r < A 2 1) (hk : k < 8) {M' : xM} {g : Nat → Int32} (hn : jN M M' (A 4 r + (5 + k)) (eC g)) : cR E B M0 M' A (uv v 10 (8 * r + k) g) := h.set 10 (8 * r + k) (clv10 hr hk) (by rw [cad10 A hk]; exact hn)
set_option maxRecDepth 100000 in
set_option maxHeartbeats 4000000 in
theorem ml47 {r : Nat} {y : Int32} (hr : r < A 2 1) (hq : ∀ M' v', cR E B M0 M' A v' → cTf v v' r y 8 → Q none M' nx) : ∀ l k M1 v1, k + l = 8 → cR E B M0 M1 A v1 → cTf v v1 r y k → XZ E 47 (xZ E 47 Q) 7 [some (.ref (A 4 r)), some (.int y), some (.int (nI k))] [] M1 nx 0 0 := by
  intro l
  induction l with
  | zero =>
    intro k M1 v1 hk h1 ht
    obtain rfl : k = 8 := by omega
    refine XZ.runH 60 [7] ?_
    simp only [n47, t47, ↓xh, ↓xst, ↓xrunE, ↓rG, rL, rSt, updA, List.elem_nil, List.elem_cons, Nat.reduceBEq, Bool.false_eq_true, if_false, if_true, true_and, and_true, true_or, or_true, not_false_eq_true, Nat.reduceAdd, Nat.reduceSub, Nat.reduceLeDiff, Nat.reduceEqDiff, Nat.reduceLT, ↓reduceIte, List.length_cons, List.length_nil, List.set_cons_zero, List.set_cons_succ, Nat.le_refl, Nat.zero_le, Nat.zero_sub, Nat.sub_zero, List.nil_append, List.cons_append, Option.toList_some, Option.toList_none, eq_self, show (8 : Int32) ≤ nI 8 by decide]
    exact hq M1 v1 h1 ht
  | succ l ih =>
    intro k M1 v1 hk h1 ht
    have k8 : k < 8 := by omega
    have g : ¬ (8 : Int32) ≤ nI k := nI_ge (show k < 8 by omega) (by decide)
    have ik := nIx k8
    have e15 : v1 15 = v 15 := ht.1 15 (by decide) (by decide)
    refine XZ.runH 60 [7] ?_
    by_cases c : y = 0
    · simp only [n47, n53, t47, ↓xh, ↓xst, ↓xrunE, ↓rG, rL, rSt, updA, List.elem_nil, List.elem_cons, Nat.reduceBEq, Bool.false_eq_true, if_false, if_true, true_and, and_true, true_or, or_true, not_false_eq_true, Nat.reduceAdd, Nat.reduceSub, Nat.reduceLeDiff, Nat.reduceEqDiff, Nat.reduceLT, ↓reduceIte, List.length_cons, List.length_nil, List.set_cons_zero, List.set_cons_succ, Nat.le_refl, Nat.zero_le, Nat.zero_sub, Nat.sub_zero, List.nil_append, List.cons_append, Option.toList_some, Option.toList_none, eq_self, g, ik, k8, ↓cRo h1 hr, ht.2.2.1.2, c, ↓cEn h1 hr k8]
      refine ec53 (cEb h1 hr k8) (cEnC h1 hr k8) (fun M2 h2 => ?_)
      refine XZ.runH 20 [7] ?_
      simp only [n47, t47, ↓xh, ↓xst, ↓xrunE, ↓rG, rL, rSt, updA, List.elem_nil, List.elem_cons, Nat.reduceBEq, Bool.false_eq_true, if_false, if_true, true_and, and_true, true_or, or_true, not_false_eq_true, Nat.reduceAdd, Nat.reduceSub, Nat.reduceLeDiff, Nat.reduceEqDiff, Nat.reduceLT, ↓reduceIte, List.length_cons, List.length_nil, List.set_cons_zero, List.set_cons_succ, Nat.le_refl, Nat.zero_le, Nat.zero_sub, Nat.sub_zero, List.nil_append, List.cons_append, Option.toList_some, Option.toList_none, eq_self, nI_1]
      subst c
      exact ih (k + 1) M2 _ (by omega) (cEs h1 hr k8 h2) (ht.st (by simp))
    by_cases d : v 15 r k = 0
    · simp only [n47, n53, t47, ↓xh, ↓xst, ↓xrunE, ↓rG, rL, rSt, updA, List.elem_nil, List.elem_cons, Nat.reduceBEq, Bool.false_eq_true, if_false, if_true, true_and, and_true, true_or, or_true, not_false_eq_true, Nat.reduceAdd, Nat.reduceSub, Nat.reduceLeDiff, Nat.reduceEqDiff, Nat.reduceLT, ↓reduceIte, List.length_cons, List.length_nil, List.set_cons_zero, List.set_cons_succ, Nat.le_refl, Nat.zero_le, Nat.zero_sub, Nat.sub_zero, List.nil_append, List.cons_append, Option.toList_some, Option.toList_none, eq_self, g, ik, k8, ↓cRo h1 hr, ht.2.2.1.2, c, e15, d, ↓cEn h1 hr k8]
      refine ec53 (cEb h1 hr k8) (cEnC h1 hr k8) (fun M2 h2 => ?_)
      refine XZ.runH 20 [7] ?_
      simp only [n47, t47, ↓xh, ↓xst, ↓xrunE, ↓rG, rL, rSt, updA, List.elem_nil, List.elem_cons, Nat.reduceBEq, Bool.false_eq_true, if_false, if_true, true_and, and_true, true_or, or_true, not_false_eq_true, Nat.reduceAdd, Nat.reduceSub, Nat.reduceLeDiff, Nat.reduceEqDiff, Nat.reduceLT, ↓reduceIte, List.length_cons, List.length_nil, List.set_cons_zero, List.set_cons_succ, Nat.le_refl, Nat.zero_le, Nat.zero_sub, Nat.sub_zero, List.nil_append, List.cons_append, Option.toList_some, Option.toList_none, eq_self, nI_1]
      exact ih (k + 1) M2 _ (by omega) (cEs h1 hr k8 h2) (ht.st (by simp [d]))
    · simp only [n47, n52, t47, ↓xh, ↓xst, ↓xrunE, ↓rG, rL, rSt, updA, List.elem_nil, List.elem_cons, Nat.reduceBEq, Bool.false_eq_true, if_false, if_true, true_and, and_true, true_or, or_true, not_false_eq_true, Nat.reduceAdd, Nat.reduceSub, Nat.reduceLeDiff, Nat.reduceEqDiff, Nat.reduceLT, ↓reduceIte, List.length_cons, List.length_nil, List.set_cons_zero, List.set_cons_succ, Nat.le_refl, Nat.zero_le, Nat.zero_sub, Nat.sub_zero, List.nil_append, List.cons_append, Option.toList_some, Option.toList_none, eq_self, g, ik, k8, ↓cRo h1 hr, ht.2.2.1.2, c, e15, d, ↓cEn h1 hr k8]
      refine ec52 (cEb h1 hr k8) (cEnC h1 hr k8) (fun M2 h2 => ?_)
      refine XZ.runH 20 [7] ?_
      simp only [n47, t47, ↓xh, ↓xst, ↓xrunE, ↓rG, rL, rSt, updA, List.elem_nil, List.elem_cons, Nat.reduceBEq, Bool.false_eq_true, if_false, if_true, true_and, and_true, true_or, or_true, not_false_eq_true, Nat.reduceAdd, Nat.reduceSub, Nat.reduceLeDiff, Nat.reduceEqDiff, Nat.reduceLT, ↓reduceIte, List.length_cons, List.length_nil, List.set_cons_zero, List.set_cons_succ, Nat.le_refl, Nat.zero_le, Nat.zero_sub, Nat.sub_zero, List.nil_append, List.cons_append, Option.toList_some, Option.toList_none, eq_self, nI_1]
      exact ih (k + 1) M2 _ (by omega) (cEs h1 hr k8 h2) (ht.st (by simp [c, d]))
set_option maxRecDepth 100000 in
set_option maxHeartbeats 4000000 in
theorem mc47 {r : Nat} {y : Int32} (h : cR E B M0 M A v) (hr : r < A 2 1) (hy : y = 0 ∨ y = 1) (hq : ∀ M' v', cR E B M0 M' A v' → cTf v v' r y 8 → Q none M' nx) : XC E 47 [.ref (A 4 r), .int y] M nx Q := by
  have hb : xb E ≤ A 4 r := h.1.lo (kd := 14) (i := r) hr
  refine XC.run 60 [7] ?_
  simp only [n47, t47, ↓xh, ↓xst, ↓xrunE, ↓rG, rL, rSt, updA, List.elem_nil, List.elem_cons, Nat.reduceBEq, Bool.false_eq_true, if_false, if_true, true_and, and_true, true_or, or_true, not_false_eq_true, Nat.reduceAdd, Nat.reduceSub, Nat.reduceLeDiff, Nat.reduceEqDiff, Nat.reduceLT, ↓reduceIte, List.length_cons, List.length_nil, List.set_cons_zero, List.set_cons_succ, Nat.le_refl, Nat.zero_le, Nat.zero_sub, Nat.sub_zero, List.nil_append, List.cons_append, Option.toList_some, Option.toList_none, eq_self, ↓cRo h hr, hb, hy]
  refine ml47 hr hq 8 0 _ _ rfl (h.pw 14 r hr (w [0, v 14 r 1, y]) rfl rfl) ⟨fun kd _ b => uv_k b, fun r' hr' => uv_n (fun z => hr' z.2), by rw [uv_s]; exact ⟨rfl, rfl⟩, fun i _ => by rw [uv_k (by decide)], fun n hn => by omega⟩
set_option maxRecDepth 100000 in
set_option maxHeartbeats 4000000 in
theorem ml49 {r : Nat} (hm : cM A v s) (hr : r < A 2 1) (hq : ∀ M' v', cR E B M0 M' A v' → cTl v v' s r 8 → Q (some (.int (nI (sumE s (8 * r + 8) - sumE s (8 * r))))) M' nx) : ∀ l k M1 v1 l3, k + l = 8 → cR E B M0 M1 A v1 → cTl v v1 s r k → XZ E 49 (xZ E 49 Q) 4 [some (.ref (A 4 r)), some (.int (nI (sumE s (8 * r + k) - sumE s (8 * r)))), some (.int (nI k)), l3] [] M1 nx 0 0 := by
  intro l
  induction l with
  | zero =>
    intro k M1 v1 l3 hk h1 ht
    obtain rfl : k = 8 := by omega
    refine XZ.runH 60 [4] ?_
    simp only [n49, t49, ↓xh, ↓xst, ↓xrunE, ↓rG, rL, rSt, updA, List.elem_nil, List.elem_cons, Nat.reduceBEq, Bool.false_eq_true, if_false, if_true, true_and, and_true, true_or, or_true, not_false_eq_true, Nat.reduceAdd, Nat.reduceSub, Nat.reduceLeDiff, Nat.reduceEqDiff, Nat.reduceLT, ↓reduceIte, List.length_cons, List.length_nil, List.set_cons_zero, List.set_cons_succ, Nat.le_refl, Nat.zero_le, Nat.zero_sub, Nat.sub_zero, List.nil_append, List.cons_append, Option.toList_some, Option.toList_none, eq_self, show (8 : Int32) ≤ nI 8 by decide]
    exact hq M1 v1 h1 ht
  | succ l ih =>
    intro k M1 v1 l3 hk h1 ht
    have k8 : k < 8 := by omega
    have g : ¬ (8 : Int32) ≤ nI k := nI_ge (show k < 8 by omega) (by decide)
    have ik := nIx k8
    have e10 : v1 10 = v 10 := ht.1 10 (by decide) (by decide)
    have e14 : v1 14 = v 14 := ht.1 14 (by decide) (by decide)
    have b17 : xb E ≤ A 4 r + 3 := h1.1.lo (kd := 17) (i := r) hr
    have b18 : xb E ≤ A 4 r + 4 := h1.1.lo (kd := 18) (i := r) hr
    obtain ⟨e0, e1, e5⟩ := hm.2.2.1 r k hr k8
    have pc := (hm.2.1 r hr).2.1
    have sk : sumE s (8 * r + (k + 1)) = sumE s (8 * r + k) + eP s (8 * r + k) := by rw [show 8 * r + (k + 1) = 8 * r + k + 1 by omega, sumE]
    have mo := sumE_mono s (8 * r) k
    refine XZ.runH 60 [4, 24, 54, 64] ?_
    simp only [n49, t49, ↓xh, ↓xst, ↓xrunE, ↓rG, rL, rSt, updA, List.elem_nil, List.elem_cons, Nat.reduceBEq, Bool.false_eq_true, if_false, if_true, true_and, and_true, true_or, or_true, not_false_eq_true, Nat.reduceAdd, Nat.reduceSub, Nat.reduceLeDiff, Nat.reduceEqDiff, Nat.reduceLT, ↓reduceIte, List.length_cons, List.length_nil, List.set_cons_zero, List.set_cons_succ, Nat.le_refl, Nat.zero_le, Nat.zero_sub, Nat.sub_zero, List.nil_append, List.cons_append, Option.toList_some, Option.toList_none, eq_self, g, ik, k8, ↓cRo h1 hr, b17, xn0, updVi]
    refine XZ.abs2 (P := fun M' => cR E B M0 M' A (uv v1 17 r (upd (v1 17 r) k (-1)))) (h1.pw 17 r hr (upd (v1 17 r) k (-1)) rfl rfl) (fun M2 h2 => ?_)
    have en2 := cEn h2 hr k8
    simp only [uv_k (show (10 : Nat) ≠ 17 by decide), e10] at en2
    refine XZ.runH 60 [4, 24, 54, 64] ?_
    by_cases f : s.2 7 (8 * r + k) < 0
    · rw [if_pos f] at e0
      simp only [n49, t49, ↓xh, ↓xst, ↓xrunE, ↓rG, rL, rSt, updA, List.elem_nil, List.elem_cons, Nat.reduceBEq, Bool.false_eq_true, if_false, if_true, true_and, and_true, true_or, or_true, not_false_eq_true, Nat.reduceAdd, Nat.reduceSub, Nat.reduceLeDiff, Nat.reduceEqDiff, Nat.reduceLT, ↓reduceIte, List.length_cons, List.length_nil, List.set_cons_zero, List.set_cons_succ, Nat.le_refl, Nat.zero_le, Nat.zero_sub, Nat.sub_zero, List.nil_append, List.cons_append, Option.toList_some, Option.toList_none, eq_self, ↓en2, e0, nI_1]
      have z : sumE s (8 * r + k) = sumE s (8 * r + (k + 1)) := by rw [sk, eP, if_pos f]; rfl
      rw [z]
      refine ih (k + 1) M2 _ _ (by omega) h2 ⟨fun kd a b => by rw [uv_k a]; exact ht.1 kd a b, fun r' hr' => ⟨by rw [uv_n (fun z => hr' z.2)]; exact (ht.2.1 r' hr').1, by rw [uv_k (by decide)]; exact (ht.2.1 r' hr').2⟩, fun n hn => ?_⟩
      rw [uv_s, uv_k (by decide), updA]
      by_cases e : n = k
      · subst e
        rw [if_pos rfl, if_pos f]
        exact ⟨rfl, fun z => absurd f z⟩
      · rw [if_neg e]
        exact ht.2.2 n (by omega)
    · rw [if_neg f] at e0
      obtain ⟨a1, a2, a3, a4⟩ := e1 f
      have ro2 := cRo h2 hr
      have go : ∀ x, x = (if s.2 10 (8 * r + k) = 2 then 16 else s.2 7 (8 * r + k)) → ∀ M3, cR E B M0 M3 A (uv v1 17 r (upd (v1 17 r) k x)) → XZ E 49 (xZ E 49 Q) 54 [some (.ref (A 4 r)), some (.int (nI (sumE s (8 * r + k) - sumE s (8 * r)))), some (.int (nI k)), some (.ref (A 4 r + (5 + k)))] [] M3 nx 0 0 := by
        intro x hx M3 h3
        have en3 := cEn h3 hr k8
        simp only [uv_k (show (10 : Nat) ≠ 17 by decide), e10] at en3
        refine XZ.runH 60 [4, 24, 54, 64] ?_
        simp only [n49, t49, ↓xh, ↓xst, ↓xrunE, ↓rG, rL, rSt, updA, List.elem_nil, List.elem_cons, Nat.reduceBEq, Bool.false_eq_true, if_false, if_true, true_and, and_true, true_or, or_true, not_false_eq_true, Nat.reduceAdd, Nat.reduceSub, Nat.reduceLeDiff, Nat.reduceEqDiff, Nat.reduceLT, ↓reduceIte, List.length_cons, List.length_nil, List.set_cons_zero, List.set_cons_succ, Nat.le_refl, Nat.zero_le, Nat.zero_sub, Nat.sub_zero, List.nil_append, List.cons_append, Option.toList_some, Option.toList_none, eq_self, ↓cRo h3 hr, ik, ↓en3, b18, xn0, updVi]
        refine XZ.abs2 (P := fun M' => cR E B M0 M' A (uv (uv v1 17 r (upd (v1 17 r) k x)) 18 r (upd (v1 18 r) k (v 10 (8 * r + k) 3)))) (h3.pw 18 r hr _ rfl (by rw [uv_k (by decide)]; rfl)) (fun M4 h4 => ?_)
        have ro4 := cRo h4 hr
        simp only [uv_k (show (14 : Nat) ≠ 18 by decide), uv_k (show (14 : Nat) ≠ 17 by decide), e14, pc] at ro4
        obtain ⟨_, _, _, q⟩ := hm.2.2.2.at (by have := h1.1.2.2.1; omega) k8 f
        have p1 : 1 ≤ rPc s r := by
          have : ∃ p, p < 8 ∧ rHas s r p = true := by
            rcases q with q | ⟨_, d, t, p, h, q1, q2, q3, q4, q5, q6, q7, q8, q9⟩
            · exact ⟨k, k8, q.1⟩
            · exact ⟨p, q6, q8⟩
          obtain ⟨p, hp, hh⟩ := this
          have := cnt_del hh 8 hp
          unfold rPc
          omega
        have es : nI (sumE s (8 * r + k) - sumE s (8 * r)) + (nI (rPc s r) - 1) = nI (sumE s (8 * r + (k + 1)) - sumE s (8 * r)) := by
          rw [show nI (rPc s r) - 1 = nI (rPc s r - 1) from nI_subn (rPc s r) 1 p1, nI_add, sk, eP, if_neg f, show (8 * r + k) / 8 = r by omega]
          congr 1
          omega
        refine XZ.runH 60 [4, 24, 54, 64] ?_
        simp only [n49, t49, ↓xh, ↓xst, ↓xrunE, ↓rG, rL, rSt, updA, List.elem_nil, List.elem_cons, Nat.reduceBEq, Bool.false_eq_true, if_false, if_true, true_and, and_true, true_or, or_true, not_false_eq_true, Nat.reduceAdd, Nat.reduceSub, Nat.reduceLeDiff, Nat.reduceEqDiff, Nat.reduceLT, ↓reduceIte, List.length_cons, List.length_nil, List.set_cons_zero, List.set_cons_succ, Nat.le_refl, Nat.zero_le, Nat.zero_sub, Nat.sub_zero, List.nil_append, List.cons_append, Option.toList_some, Option.toList_none, eq_self, ↓ro4, es, nI_1]
        refine ih (k + 1) M4 _ _ (by omega) h4 ⟨fun kd a b => by rw [uv_k b, uv_k a]; exact ht.1 kd a b, fun r' hr' => ⟨by rw [uv_k (by decide), uv_n (fun z => hr' z.2)]; exact (ht.2.1 r' hr').1, by rw [uv_n (fun z => hr' z.2), uv_k (by decide)]; exact (ht.2.1 r' hr').2⟩, fun n hn => ?_⟩
        rw [uv_s, uv_k (by decide), uv_s, updA, updA]
        by_cases e : n = k
        · subst e
          rw [if_pos rfl, if_pos rfl, if_neg f]
          exact ⟨hx, fun _ => a3⟩
        · rw [if_neg e, if_neg e]
          exact ht.2.2 n (by omega)
      have uu : ∀ x, uv (uv v1 17 r (upd (v1 17 r) k (-1))) 17 r (upd (upd (v1 17 r) k (-1)) k x) = uv v1 17 r (upd (v1 17 r) k x) := by
        intro x
        funext kd i
        unfold uv
        split
        · funext j
          simp only [updA]
          split <;> rfl
        · rfl
      by_cases c : s.2 10 (8 * r + k) = 2
      · simp only [n49, t49, ↓xh, ↓xst, ↓xrunE, ↓rG, rL, rSt, updA, List.elem_nil, List.elem_cons, Nat.reduceBEq, Bool.false_eq_true, if_false, if_true, true_and, and_true, true_or, or_true, not_false_eq_true, Nat.reduceAdd, Nat.reduceSub, Nat.reduceLeDiff, Nat.reduceEqDiff, Nat.reduceLT, ↓reduceIte, List.length_cons, List.length_nil, List.set_cons_zero, List.set_cons_succ, Nat.le_refl, Nat.zero_le, Nat.zero_sub, Nat.sub_zero, List.nil_append, List.cons_append, Option.toList_some, Option.toList_none, eq_self, ↓en2, e0, show ¬ (1 : Int32) = 0 by decide, ↓ro2, ik, a4, c, b17, xn0, uv_s, updVi]
        refine go 16 (by rw [if_pos c]) _ ?_
        rw [← uu]
        exact h2.pw 17 r hr _ rfl (by rfl)
      · simp only [n49, t49, ↓xh, ↓xst, ↓xrunE, ↓rG, rL, rSt, updA, List.elem_nil, List.elem_cons, Nat.reduceBEq, Bool.false_eq_true, if_false, if_true, true_and, and_true, true_or, or_true, not_false_eq_true, Nat.reduceAdd, Nat.reduceSub, Nat.reduceLeDiff, Nat.reduceEqDiff, Nat.reduceLT, ↓reduceIte, List.length_cons, List.length_nil, List.set_cons_zero, List.set_cons_succ, Nat.le_refl, Nat.zero_le, Nat.zero_sub, Nat.sub_zero, List.nil_append, List.cons_append, Option.toList_some, Option.toList_none, eq_self, ↓en2, e0, show ¬ (1 : Int32) = 0 by decide, ↓ro2, ik, a4, a1, c, b17, xn0, uv_s, updVi]
        refine go _ (by rw [if_neg c]) _ ?_
        rw [← uu]
        exact h2.pw 17 r hr _ rfl (by rfl)
set_option maxRecDepth 100000 in
set_option maxHeartbeats 4000000 in
theorem mc49 {r : Nat} (h : cR E B M0 M A v) (hm : cM A v s) (hr : r < A 2 1) (hq : ∀ M' v', cR E B M0 M' A v' → cTl v v' s r 8 → Q (some (.int (nI (sumE s (8 * r + 8) - sumE s (8 * r))))) M' nx) : XC E 49 [.ref (A 4 r)] M nx Q := by
  refine XC.run 60 [4] ?_
  simp only [n49, t49, ↓xh, ↓xst, ↓xrunE, ↓rG, rL, rSt, updA, List.elem_nil, List.elem_cons, Nat.reduceBEq, Bool.false_eq_true, if_false, if_true, true_and, and_true, true_or, or_true, not_false_eq_true, Nat.reduceAdd, Nat.reduceSub, Nat.reduceLeDiff, Nat.reduceEqDiff, Nat.reduceLT, ↓reduceIte, List.length_cons, List.length_nil, List.set_cons_zero, List.set_cons_succ, Nat.le_refl, Nat.zero_le, Nat.zero_sub, Nat.sub_zero, List.nil_append, List.cons_append, Option.toList_some, Option.toList_none, eq_self]
  have := ml49 hm hr hq 8 0 M v none rfl h ⟨fun _ _ _ => rfl, fun _ _ => ⟨rfl, rfl⟩, fun n hn => by omega⟩
  rw [Nat.add_zero, Nat.sub_self] at this
  exact this
end RTR
