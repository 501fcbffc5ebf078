/-! zones -/
def cZ1 (A : cA) (v v' : cV) (j : Nat) : Prop := (∀ kd, kd ≠ 10 → v' kd = v kd) ∧ ∀ r n, r < A 2 1 → n < 8 → v' 10 (8 * r + n) = if 8 * r + n < j ∧ n < A 2 0 then w [v 10 (8 * r + n) 0, v 10 (8 * r + n) 1, v 10 (8 * r + n) 2, v 10 (8 * r + n) 3, v 10 (8 * r + n) 4, v 10 (8 * r + n) 5, v 10 (8 * r + n) 5] else v 10 (8 * r + n)
def cZ2 (A : cA) (v v' : cV) (j : Nat) : Prop := (∀ kd, kd ≠ 10 → v' kd = v kd) ∧ ∀ r n, r < A 2 1 → n < 8 → v' 10 (8 * r + n) = if n < A 2 0 then w [v 10 (8 * r + n) 0, v 10 (8 * r + n) 1, v 10 (8 * r + n) 2, v 10 (8 * r + n) 3, v 10 (8 * r + n) 4, if 8 * r + n < j then cZk A v n (v 10 (8 * r + n)) else v 10 (8 * r + n) 5, v 10 (8 * r + n) 5] else v 10 (8 * r + n)
theorem cZ1.st {A : cA} {v v1 : cV} {r k : Nat} (hr : r < A 2 1) (hk : k < A 2 0) (k8 : k < 8) (h : cZ1 A v v1 (8 * r + k)) : cZ1 A v (uv v1 10 (8 * r + k) (w [v1 10 (8 * r + k) 0, v1 10 (8 * r + k) 1, v1 10 (8 * r + k) 2, v1 10 (8 * r + k) 3, v1 10 (8 * r + k) 4, v1 10 (8 * r + k) 5, v1 10 (8 * r + k) 5])) (8 * r + (k + 1)) := by
  refine ⟨fun kd a => by rw [uv_k a]; exact h.1 kd a, fun r' n hr' hn => ?_⟩
  have e0 : v1 10 (8 * r + k) = v 10 (8 * r + k) := by rw [h.2 r k hr k8, if_neg (by omega)]
  by_cases e : 8 * r' + n = 8 * r + k
  · obtain ⟨rfl, rfl⟩ : r' = r ∧ n = k := by omega
    rw [uv_s, e0, if_pos ⟨by omega, hk⟩]
  · rw [uv_n (fun z => e z.2), h.2 r' n hr' hn]
    by_cases c : 8 * r' + n < 8 * r + k ∧ n < A 2 0
    · rw [if_pos c, if_pos ⟨by omega, c.2⟩]
    · rw [if_neg c, if_neg (by omega)]
theorem cZ1.nx {A : cA} {v v1 : cV} {r : Nat} (h : cZ1 A v v1 (8 * r + A 2 0)) (h8 : A 2 0 ≤ 8) : cZ1 A v v1 (8 * (r + 1)) := by
  refine ⟨h.1, fun r' n hr' hn => ?_⟩
  rw [h.2 r' n hr' hn]
  by_cases c : 8 * r' + n < 8 * r + A 2 0 ∧ n < A 2 0
  · rw [if_pos c, if_pos (by omega)]
  · rw [if_neg c, if_neg (by omega)]
theorem cZ1.z2 {A : cA} {v v1 : cV} (h : cZ1 A v v1 (8 * A 2 1)) : cZ2 A v v1 0 := by
  refine ⟨h.1, fun r n hr hn => ?_⟩
  rw [h.2 r n hr hn]
  by_cases c : n < A 2 0
  · rw [if_pos ⟨by omega, c⟩, if_pos c, if_neg (by omega)]
  · rw [if_neg (fun z => c z.2), if_neg c]
theorem cZ2.st {A : cA} {v v1 : cV} {r k : Nat} {x : Int32} (hr : r < A 2 1) (hk : k < A 2 0) (k8 : k < 8) (h : cZ2 A v v1 (8 * r + k)) (hx : x = cZk A v k (v 10 (8 * r + k))) : cZ2 A v (uv v1 10 (8 * r + k) (w [v1 10 (8 * r + k) 0, v1 10 (8 * r + k) 1, v1 10 (8 * r + k) 2, v1 10 (8 * r + k) 3, v1 10 (8 * r + k) 4, x, v1 10 (8 * r + k) 6])) (8 * r + (k + 1)) := by
  refine ⟨fun kd a => by rw [uv_k a]; exact h.1 kd a, fun r' n hr' hn => ?_⟩
  have e0 : v1 10 (8 * r + k) = w [v 10 (8 * r + k) 0, v 10 (8 * r + k) 1, v 10 (8 * r + k) 2, v 10 (8 * r + k) 3, v 10 (8 * r + k) 4, v 10 (8 * r + k) 5, v 10 (8 * r + k) 5] := by rw [h.2 r k hr k8, if_pos hk, if_neg (by omega)]
  by_cases e : 8 * r' + n = 8 * r + k
  · obtain ⟨rfl, rfl⟩ : r' = r ∧ n = k := by omega
    rw [uv_s, e0, if_pos hk, if_pos (by omega), hx]
    rfl
  · rw [uv_n (fun z => e z.2), h.2 r' n hr' hn]
    by_cases c : 8 * r' + n < 8 * r + k
    · rw [if_pos c, if_pos (show 8 * r' + n < 8 * r + (k + 1) by omega)]
    · rw [if_neg c, if_neg (show ¬ 8 * r' + n < 8 * r + (k + 1) by omega)]
theorem cZ2.kp {A : cA} {v v1 : cV} {r k : Nat} (hr : r < A 2 1) (k8 : k < 8) (h : cZ2 A v v1 (8 * r + k)) (hx : cZk A v k (v 10 (8 * r + k)) = v 10 (8 * r + k) 5) : cZ2 A v v1 (8 * r + (k + 1)) := by
  refine ⟨h.1, fun r' n hr' hn => ?_⟩
  rw [h.2 r' n hr' hn]
  by_cases e : 8 * r' + n = 8 * r + k
  · obtain ⟨rfl, rfl⟩ : r' = r ∧ n = k := by omega
    rw [if_neg (show ¬ 8 * r' + n < 8 * r' + n by omega), if_pos (show 8 * r' + n < 8 * r' + (n + 1) by omega), hx]
  · by_cases c : 8 * r' + n < 8 * r + k
    · rw [if_pos c, if_pos (show 8 * r' + n < 8 * r + (k + 1) by omega)]
    · rw [if_neg c, if_neg (show ¬ 8 * r' + n < 8 * r + (k + 1) by omega)]
theorem cZ2.nx {A : cA} {v v1 : cV} {r : Nat} (h : cZ2 A v v1 (8 * r + A 2 0)) (h8 : A 2 0 ≤ 8) : cZ2 A v v1 (8 * (r + 1)) := by
  refine ⟨h.1, fun r' n hr' hn => ?_⟩
  rw [h.2 r' n hr' hn]
  by_cases d : n < A 2 0
  · by_cases c : 8 * r' + n < 8 * r + A 2 0
    · rw [if_pos d, if_pos d, if_pos c, if_pos (show 8 * r' + n < 8 * (r + 1) by omega)]
    · rw [if_pos d, if_pos d, if_neg c, if_neg (show ¬ 8 * r' + n < 8 * (r + 1) by omega)]
  · rw [if_neg d, if_neg d]
section ZON
variable {E : xE} {B nx : Nat} {M0 M : xM} {A : cA} {v : cV} {s : rS} {Q : Option Value → xM → Nat → Prop}
theorem cE.b5 {g : Nat → Int32} {s : rS} {i : Nat} (h : cE g s i) : g 5 = 0 ∨ g 5 = 1 := by
  rw [h.2.2]
  split
  · exact Or.inr rfl
  · exact Or.inl rfl
set_option maxRecDepth 100000 in
set_option maxHeartbeats 4000000 in
theorem ml41k {r : Nat} {l3 : Option Value} (hr : r < A 2 1) (hm : cM A v s) (hq : ∀ M' v' l3, cR E B M0 M' A v' → cZ1 A v v' (8 * (r + 1)) → XZ E 41 (xZ E 41 Q) 46 [some (.ref (A 0 0 + 3)), some (.int (nI r)), some (.int (nI (A 2 0))), l3] [] M' nx 0 0) : ∀ l k M1 v1 l3, k + l = A 2 0 → cR E B M0 M1 A v1 → cZ1 A v v1 (8 * r + k) → XZ E 41 (xZ E 41 Q) 12 [some (.ref (A 0 0 + 3)), some (.int (nI r)), some (.int (nI k)), l3] [] M1 nx 0 0 := by
  intro l
  induction l with
  | zero =>
    intro k M1 v1 l3 hk h1 ht
    obtain rfl : k = A 2 0 := by omega
    have hN := h1.1.2.1
    have e := eT (nI_le (Nat.le_refl (A 2 0)) (show A 2 0 < 2 ^ 31 by omega))
    have e4 : v1 4 0 1 = nI (A 2 0) := by rw [ht.1 4 (by decide)]; exact hm.1.1
    refine XZ.runH 60 [12, 46] ?_
    simp only [n41, t41, ↓xh, ↓xst, ↓xrunE, ↓rG, rL, rSt, updA, List.elem_nil, List.elem_cons, Nat.reduceBEq, Bool.false_eq_true, if_false, if_true, true_and, and_true, true_or, or_true, not_false_eq_true, Nat.reduceAdd, Nat.reduceSub, Nat.reduceLeDiff, Nat.reduceEqDiff, Nat.reduceLT, ↓reduceIte, List.length_cons, List.length_nil, List.set_cons_zero, List.set_cons_succ, Nat.le_refl, Nat.zero_le, Nat.zero_sub, Nat.sub_zero, List.nil_append, List.cons_append, Option.toList_some, Option.toList_none, eq_self, ↓cFx h1, e4, e]
    exact hq M1 v1 _ h1 (ht.nx hN)
  | succ l ih =>
    intro k M1 v1 l3 hk h1 ht
    have hN := h1.1.2.1
    have hR := h1.1.2.2.1
    have k1 : k < A 2 0 := by omega
    have k8 : k < 8 := by omega
    have e := eF (nI_ge k1 (show A 2 0 < 2 ^ 31 by omega))
    have e4 : v1 4 0 1 = nI (A 2 0) := by rw [ht.1 4 (by decide)]; exact hm.1.1
    have ir := nIx (show r < 6 by omega)
    have ik := nIx k8
    have hb := cEb h1 hr k8
    have b5 : v1 10 (8 * r + k) 5 = 0 ∨ v1 10 (8 * r + k) 5 = 1 := by
      rw [ht.2 r k hr k8, if_neg (by omega)]
      exact (hm.2.2.1 r k hr k8).b5
    refine XZ.runH 60 [12, 46] ?_
    simp only [n41, t41, ↓xh, ↓xst, ↓xrunE, ↓rG, rL, rSt, updA, List.elem_nil, List.elem_cons, Nat.reduceBEq, Bool.false_eq_true, if_false, if_true, true_and, and_true, true_or, or_true, not_false_eq_true, Nat.reduceAdd, Nat.reduceSub, Nat.reduceLeDiff, Nat.reduceEqDiff, Nat.reduceLT, ↓reduceIte, List.length_cons, List.length_nil, List.set_cons_zero, List.set_cons_succ, Nat.le_refl, Nat.zero_le, Nat.zero_sub, Nat.sub_zero, List.nil_append, List.cons_append, Option.toList_some, Option.toList_none, eq_self, ↓cFx h1, e4, e, ir, ik, hr, k8, ↓cRo h1 hr, ↓cEn h1 hr k8, hb, b5, nI_1]
    exact ih (k + 1) _ _ _ (by omega) (cEs h1 hr k8 (jN_put M1 _ _)) (ht.st hr k1 k8)
set_option maxRecDepth 100000 in
set_option maxHeartbeats 4000000 in
theorem ml41 {l2 l3 : Option Value} (hm : cM A v s) (hq : ∀ M' v' l1 l2 l3, cR E B M0 M' A v' → cZ1 A v v' (8 * A 2 1) → XZ E 41 (xZ E 41 Q) 52 [some (.ref (A 0 0 + 3)), l1, l2, l3] [] M' nx 0 0) : ∀ l r M1 v1 l2 l3, r + l = A 2 1 → cR E B M0 M1 A v1 → cZ1 A v v1 (8 * r) → XZ E 41 (xZ E 41 Q) 2 [some (.ref (A 0 0 + 3)), some (.int (nI r)), l2, l3] [] M1 nx 0 0 := by
  intro l
  induction l with
  | zero =>
    intro r M1 v1 l2 l3 hr h1 ht
    obtain rfl : r = A 2 1 := by omega
    have hR := h1.1.2.2.1
    have e := eT (nI_le (Nat.le_refl (A 2 1)) (show A 2 1 < 2 ^ 31 by omega))
    have e4 : v1 4 0 3 = nI (A 2 1) := by rw [ht.1 4 (by decide)]; exact hm.1.2.1
    refine XZ.runH 60 [2, 52] ?_
    simp only [n41, t41, ↓xh, ↓xst, ↓xrunE, ↓rG, rL, rSt, updA, List.elem_nil, List.elem_cons, Nat.reduceBEq, Bool.false_eq_true, if_false, if_true, true_and, and_true, true_or, or_true, not_false_eq_true, Nat.reduceAdd, Nat.reduceSub, Nat.reduceLeDiff, Nat.reduceEqDiff, Nat.reduceLT, ↓reduceIte, List.length_cons, List.length_nil, List.set_cons_zero, List.set_cons_succ, Nat.le_refl, Nat.zero_le, Nat.zero_sub, Nat.sub_zero, List.nil_append, List.cons_append, Option.toList_some, Option.toList_none, eq_self, ↓cFx h1, e4, e]
    exact hq M1 v1 _ _ _ h1 ht
  | succ l ih =>
    intro r M1 v1 l2 l3 hr h1 ht
    have hR := h1.1.2.2.1
    have r1 : r < A 2 1 := by omega
    have e := eF (nI_ge r1 (show A 2 1 < 2 ^ 31 by omega))
    have e4 : v1 4 0 3 = nI (A 2 1) := by rw [ht.1 4 (by decide)]; exact hm.1.2.1
    refine XZ.runH 60 [2, 12, 52] ?_
    simp only [n41, t41, ↓xh, ↓xst, ↓xrunE, ↓rG, rL, rSt, updA, List.elem_nil, List.elem_cons, Nat.reduceBEq, Bool.false_eq_true, if_false, if_true, true_and, and_true, true_or, or_true, not_false_eq_true, Nat.reduceAdd, Nat.reduceSub, Nat.reduceLeDiff, Nat.reduceEqDiff, Nat.reduceLT, ↓reduceIte, List.length_cons, List.length_nil, List.set_cons_zero, List.set_cons_succ, Nat.le_refl, Nat.zero_le, Nat.zero_sub, Nat.sub_zero, List.nil_append, List.cons_append, Option.toList_some, Option.toList_none, eq_self, ↓cFx h1, e4, e]
    refine ml41k (v := v) (l3 := none) r1 hm (fun M2 v2 l3 h2 t2 => ?_) (A 2 0) 0 M1 v1 _ (by omega) h1 ht
    refine XZ.runH 60 [2, 52] ?_
    simp only [n41, t41, ↓xh, ↓xst, ↓xrunE, ↓rG, rL, rSt, updA, List.elem_nil, List.elem_cons, Nat.reduceBEq, Bool.false_eq_true, if_false, if_true, true_and, and_true, true_or, or_true, not_false_eq_true, Nat.reduceAdd, Nat.reduceSub, Nat.reduceLeDiff, Nat.reduceEqDiff, Nat.reduceLT, ↓reduceIte, List.length_cons, List.length_nil, List.set_cons_zero, List.set_cons_succ, Nat.le_refl, Nat.zero_le, Nat.zero_sub, Nat.sub_zero, List.nil_append, List.cons_append, Option.toList_some, Option.toList_none, eq_self, nI_1]
    exact ih (r + 1) M2 v2 _ _ (by omega) h2 t2
set_option maxRecDepth 100000 in
set_option maxHeartbeats 4000000 in
theorem ml41m {r : Nat} {l3 : Option Value} (hr : r < A 2 1) (hm : cM A v s) (hq : ∀ M' v' l3, cR E B M0 M' A v' → cZ2 A v v' (8 * (r + 1)) → XZ E 41 (xZ E 41 Q) 136 [some (.ref (A 0 0 + 3)), some (.int (nI r)), some (.int (nI (A 2 0))), l3] [] M' nx 0 0) : ∀ l k M1 v1 l3, k + l = A 2 0 → cR E B M0 M1 A v1 → cZ2 A v v1 (8 * r + k) → XZ E 41 (xZ E 41 Q) 64 [some (.ref (A 0 0 + 3)), some (.int (nI r)), some (.int (nI k)), l3] [] M1 nx 0 0 := by
  intro l
  induction l with
  | zero =>
    intro k M1 v1 l3 hk h1 ht
    obtain rfl : k = A 2 0 := by omega
    have hN := h1.1.2.1
    have e := eT (nI_le (Nat.le_refl (A 2 0)) (show A 2 0 < 2 ^ 31 by omega))
    have e4 : v1 4 0 1 = nI (A 2 0) := by rw [ht.1 4 (by decide)]; exact hm.1.1
    refine XZ.runH 60 [64, 136] ?_
    simp only [n41, t41, ↓xh, ↓xst, ↓xrunE, ↓rG, rL, rSt, updA, List.elem_nil, List.elem_cons, Nat.reduceBEq, Bool.false_eq_true, if_false, if_true, true_and, and_true, true_or, or_true, not_false_eq_true, Nat.reduceAdd, Nat.reduceSub, Nat.reduceLeDiff, Nat.reduceEqDiff, Nat.reduceLT, ↓reduceIte, List.length_cons, List.length_nil, List.set_cons_zero, List.set_cons_succ, Nat.le_refl, Nat.zero_le, Nat.zero_sub, Nat.sub_zero, List.nil_append, List.cons_append, Option.toList_some, Option.toList_none, eq_self, ↓cFx h1, e4, e]
    exact hq M1 v1 _ h1 (ht.nx hN)
  | succ l ih =>
    intro k M1 v1 l3 hk h1 ht
    have hN := h1.1.2.1
    have hR := h1.1.2.2.1
    have k1 : k < A 2 0 := by omega
    have k8 : k < 8 := by omega
    have e := eF (nI_ge k1 (show A 2 0 < 2 ^ 31 by omega))
    have e4 : v1 4 0 1 = nI (A 2 0) := by rw [ht.1 4 (by decide)]; exact hm.1.1
    have e43 : v1 4 0 3 = nI (A 2 1) := by rw [ht.1 4 (by decide)]; exact hm.1.2.1
    have ir := nIx (show r < 6 by omega)
    have ik := nIx k8
    have hb := cEb h1 hr k8
    have en := ht.2 r k hr k8
    rw [if_pos k1, if_neg (show ¬ 8 * r + k < 8 * r + k by omega)] at en
    have v0 : v1 10 (8 * r + k) 0 = v 10 (8 * r + k) 0 := by rw [en]; rfl
    have v2 : v1 10 (8 * r + k) 2 = v 10 (8 * r + k) 2 := by rw [en]; rfl
    have v5 : v1 10 (8 * r + k) 5 = v 10 (8 * r + k) 5 := by rw [en]; rfl
    have skip : cZk A v k (v 10 (8 * r + k)) = v 10 (8 * r + k) 5 → ∀ l3, XZ E 41 (xZ E 41 Q) 64 [some (.ref (A 0 0 + 3)), some (.int (nI r)), some (.int (nI (k + 1))), l3] [] M1 nx 0 0 := fun z l3 => ih (k + 1) M1 v1 l3 (by omega) h1 (ht.kp hr k8 z)
    refine XZ.runH 60 [64, 136] ?_
    by_cases c0 : v 10 (8 * r + k) 0 = 0
    · simp only [n41, t41, ↓xh, ↓xst, ↓xrunE, ↓rG, rL, rSt, updA, List.elem_nil, List.elem_cons, Nat.reduceBEq, Bool.false_eq_true, if_false, if_true, true_and, and_true, true_or, or_true, not_false_eq_true, Nat.reduceAdd, Nat.reduceSub, Nat.reduceLeDiff, Nat.reduceEqDiff, Nat.reduceLT, ↓reduceIte, List.length_cons, List.length_nil, List.set_cons_zero, List.set_cons_succ, Nat.le_refl, Nat.zero_le, Nat.zero_sub, Nat.sub_zero, List.nil_append, List.cons_append, Option.toList_some, Option.toList_none, eq_self, ↓cFx h1, e4, e, ir, ik, hr, k8, ↓cRo h1 hr, ↓cEn h1 hr k8, v0, c0, nI_1]
      exact skip (by unfold cZk; rw [if_neg (fun z => z.1 c0)]) _
    by_cases c5 : v 10 (8 * r + k) 5 = 0
    rotate_left
    · simp only [n41, t41, ↓xh, ↓xst, ↓xrunE, ↓rG, rL, rSt, updA, List.elem_nil, List.elem_cons, Nat.reduceBEq, Bool.false_eq_true, if_false, if_true, true_and, and_true, true_or, or_true, not_false_eq_true, Nat.reduceAdd, Nat.reduceSub, Nat.reduceLeDiff, Nat.reduceEqDiff, Nat.reduceLT, ↓reduceIte, List.length_cons, List.length_nil, List.set_cons_zero, List.set_cons_succ, Nat.le_refl, Nat.zero_le, Nat.zero_sub, Nat.sub_zero, List.nil_append, List.cons_append, Option.toList_some, Option.toList_none, eq_self, ↓cFx h1, e4, e, ir, ik, hr, k8, ↓cRo h1 hr, ↓cEn h1 hr k8, v0, c0, v5, c5, nI_1]
      exact skip (by unfold cZk; rw [if_neg (fun z => c5 z.2.1)]) _
    simp only [n41, n35, t41, ↓xh, ↓xst, ↓xrunE, ↓rG, rL, rSt, updA, List.elem_nil, List.elem_cons, Nat.reduceBEq, Bool.false_eq_true, if_false, if_true, true_and, and_true, true_or, or_true, not_false_eq_true, Nat.reduceAdd, Nat.reduceSub, Nat.reduceLeDiff, Nat.reduceEqDiff, Nat.reduceLT, ↓reduceIte, List.length_cons, List.length_nil, List.set_cons_zero, List.set_cons_succ, Nat.le_refl, Nat.zero_le, Nat.zero_sub, Nat.sub_zero, List.nil_append, List.cons_append, Option.toList_some, Option.toList_none, eq_self, ↓cFx h1, e4, e, ir, ik, hr, k8, ↓cRo h1 hr, ↓cEn h1 hr k8, v0, c0, v5, c5, v2]
    refine mc35 h1 e43 ?_
    refine XZ.runH 60 [64, 136] ?_
    by_cases c2 : v 10 (8 * r + k) 2 < 0 ∨ nI (A 2 1) ≤ v 10 (8 * r + k) 2
    · rw [if_pos c2]
      simp only [n41, t41, ↓xh, ↓xst, ↓xrunE, ↓rG, rL, rSt, updA, List.elem_nil, List.elem_cons, Nat.reduceBEq, Bool.false_eq_true, if_false, if_true, true_and, and_true, true_or, or_true, not_false_eq_true, Nat.reduceAdd, Nat.reduceSub, Nat.reduceLeDiff, Nat.reduceEqDiff, Nat.reduceLT, ↓reduceIte, List.length_cons, List.length_nil, List.set_cons_zero, List.set_cons_succ, Nat.le_refl, Nat.zero_le, Nat.zero_sub, Nat.sub_zero, List.nil_append, List.cons_append, Option.toList_some, Option.toList_none, eq_self, nI_1]
      exact skip (by unfold cZk; rw [if_neg (fun z => z.2.2 c2)]) _
    · rw [if_neg c2]
      obtain ⟨t, ht1, et⟩ := nIv (X := A 2 1) (fun z => c2 (Or.inl z)) (fun z => c2 (Or.inr z)) (by omega)
      have it := nIx (show t < 6 by omega)
      have en2 := ht.2 t k ht1 k8
      rw [if_pos k1] at en2
      have w6 : v1 10 (8 * t + k) 6 = v 10 (8 * t + k) 5 := by rw [en2]; rfl
      have b5 := (hm.2.2.1 t k ht1 k8).b5
      have zk : cZk A v k (v 10 (8 * r + k)) = v 10 (8 * t + k) 5 := by unfold cZk; rw [if_pos ⟨c0, c5, c2⟩, et, nI_clamp (by omega)]
      simp only [n41, t41, ↓xh, ↓xst, ↓xrunE, ↓rG, rL, rSt, updA, List.elem_nil, List.elem_cons, Nat.reduceBEq, Bool.false_eq_true, if_false, if_true, true_and, and_true, true_or, or_true, not_false_eq_true, Nat.reduceAdd, Nat.reduceSub, Nat.reduceLeDiff, Nat.reduceEqDiff, Nat.reduceLT, ↓reduceIte, List.length_cons, List.length_nil, List.set_cons_zero, List.set_cons_succ, Nat.le_refl, Nat.zero_le, Nat.zero_sub, Nat.sub_zero, List.nil_append, List.cons_append, Option.toList_some, Option.toList_none, eq_self, show ¬ (1 : Int32) = 0 by decide, ↓cFx h1, it, ik, ht1, k8, ↓cRo h1 ht1, ↓cEn h1 hr k8, ↓cEn h1 ht1 k8, v2, et, w6, hb, b5, nI_1]
      exact ih (k + 1) _ _ _ (by omega) (cEs h1 hr k8 (jN_put M1 _ (eC (w [v1 10 (8 * r + k) 0, v1 10 (8 * r + k) 1, nI t, v1 10 (8 * r + k) 3, v1 10 (8 * r + k) 4, v 10 (8 * t + k) 5, v1 10 (8 * r + k) 6])))) (by have := ht.st hr k1 k8 (x := v 10 (8 * t + k) 5) zk.symm; rw [v2, et] at this; exact this)
set_option maxRecDepth 100000 in
set_option maxHeartbeats 4000000 in
theorem ml41n {l2 l3 : Option Value} (hm : cM A v s) (hq : ∀ M' v', cR E B M0 M' A v' → cZ2 A v v' (8 * A 2 1) → Q none M' nx) : ∀ l r M1 v1 l2 l3, r + l = A 2 1 → cR E B M0 M1 A v1 → cZ2 A v v1 (8 * r) → XZ E 41 (xZ E 41 Q) 54 [some (.ref (A 0 0 + 3)), some (.int (nI r)), l2, l3] [] M1 nx 0 0 := by
  intro l
  induction l with
  | zero =>
    intro r M1 v1 l2 l3 hr h1 ht
    obtain rfl : r = A 2 1 := by omega
    have hR := h1.1.2.2.1
    have e := eT (nI_le (Nat.le_refl (A 2 1)) (show A 2 1 < 2 ^ 31 by omega))
    have e4 : v1 4 0 3 = nI (A 2 1) := by rw [ht.1 4 (by decide)]; exact hm.1.2.1
    refine XZ.runH 60 [54] ?_
    simp only [n41, t41, ↓xh, ↓xst, ↓xrunE, ↓rG, rL, rSt, updA, List.elem_nil, List.elem_cons, Nat.reduceBEq, Bool.false_eq_true, if_false, if_true, true_and, and_true, true_or, or_true, not_false_eq_true, Nat.reduceAdd, Nat.reduceSub, Nat.reduceLeDiff, Nat.reduceEqDiff, Nat.reduceLT, ↓reduceIte, List.length_cons, List.length_nil, List.set_cons_zero, List.set_cons_succ, Nat.le_refl, Nat.zero_le, Nat.zero_sub, Nat.sub_zero, List.nil_append, List.cons_append, Option.toList_some, Option.toList_none, eq_self, ↓cFx h1, e4, e]
    exact hq M1 v1 h1 ht
  | succ l ih =>
    intro r M1 v1 l2 l3 hr h1 ht
    have hR := h1.1.2.2.1
    have r1 : r < A 2 1 := by omega
    have e := eF (nI_ge r1 (show A 2 1 < 2 ^ 31 by omega))
    have e4 : v1 4 0 3 = nI (A 2 1) := by rw [ht.1 4 (by decide)]; exact hm.1.2.1
    refine XZ.runH 60 [54, 64] ?_
    simp only [n41, t41, ↓xh, ↓xst, ↓xrunE, ↓rG, rL, rSt, updA, List.elem_nil, List.elem_cons, Nat.reduceBEq, Bool.false_eq_true, if_false, if_true, true_and, and_true, true_or, or_true, not_false_eq_true, Nat.reduceAdd, Nat.reduceSub, Nat.reduceLeDiff, Nat.reduceEqDiff, Nat.reduceLT, ↓reduceIte, List.length_cons, List.length_nil, List.set_cons_zero, List.set_cons_succ, Nat.le_refl, Nat.zero_le, Nat.zero_sub, Nat.sub_zero, List.nil_append, List.cons_append, Option.toList_some, Option.toList_none, eq_self, ↓cFx h1, e4, e]
    refine ml41m (v := v) (l3 := none) r1 hm (fun M2 v2 l3 h2 t2 => ?_) (A 2 0) 0 M1 v1 _ (by omega) h1 ht
    refine XZ.runH 60 [54] ?_
    simp only [n41, t41, ↓xh, ↓xst, ↓xrunE, ↓rG, rL, rSt, updA, List.elem_nil, List.elem_cons, Nat.reduceBEq, Bool.false_eq_true, if_false, if_true, true_and, and_true, true_or, or_true, not_false_eq_true, Nat.reduceAdd, Nat.reduceSub, Nat.reduceLeDiff, Nat.reduceEqDiff, Nat.reduceLT, ↓reduceIte, List.length_cons, List.length_nil, List.set_cons_zero, List.set_cons_succ, Nat.le_refl, Nat.zero_le, Nat.zero_sub, Nat.sub_zero, List.nil_append, List.cons_append, Option.toList_some, Option.toList_none, eq_self, nI_1]
    exact ih (r + 1) M2 v2 _ _ (by omega) h2 t2
set_option maxRecDepth 100000 in
set_option maxHeartbeats 4000000 in
theorem mc41 (h : cR E B M0 M A v) (hm : cM A v s) (hq : ∀ M' v', cR E B M0 M' A v' → cM A v' (rZones s) → (∀ kd, kd ≠ 10 → v' kd = v kd) → Q none M' nx) : XC E 41 [.ref (A 0 0 + 3)] M nx Q := by
  have hR := h.1.2.2.1
  refine XC.run 60 [2] ?_
  simp only [n41, t41, ↓xh, ↓xst, ↓xrunE, ↓rG, rL, rSt, updA, List.elem_nil, List.elem_cons, Nat.reduceBEq, Bool.false_eq_true, if_false, if_true, true_and, and_true, true_or, or_true, not_false_eq_true, Nat.reduceAdd, Nat.reduceSub, Nat.reduceLeDiff, Nat.reduceEqDiff, Nat.reduceLT, ↓reduceIte, List.length_cons, List.length_nil, List.set_cons_zero, List.set_cons_succ, Nat.le_refl, Nat.zero_le, Nat.zero_sub, Nat.sub_zero, List.nil_append, List.cons_append, Option.toList_some, Option.toList_none, eq_self]
  refine ml41 (l2 := none) (l3 := none) hm (fun M1 v1 l1 l2 l3 h1 t1 => ?_) (A 2 1) 0 M v _ _ (by omega) h ⟨fun _ _ => rfl, fun r n _ _ => by rw [if_neg (by omega)]⟩
  refine XZ.runH 60 [54] ?_
  simp only [n41, t41, ↓xh, ↓xst, ↓xrunE, ↓rG, rL, rSt, updA, List.elem_nil, List.elem_cons, Nat.reduceBEq, Bool.false_eq_true, if_false, if_true, true_and, and_true, true_or, or_true, not_false_eq_true, Nat.reduceAdd, Nat.reduceSub, Nat.reduceLeDiff, Nat.reduceEqDiff, Nat.reduceLT, ↓reduceIte, List.length_cons, List.length_nil, List.set_cons_zero, List.set_cons_succ, Nat.le_refl, Nat.zero_le, Nat.zero_sub, Nat.sub_zero, List.nil_append, List.cons_append, Option.toList_some, Option.toList_none, eq_self]
  refine ml41n (l2 := none) (l3 := none) hm (fun M2 v2 h2 t2 => ?_) (A 2 1) 0 M1 v1 _ _ (by omega) h1 t1.z2
  refine hq M2 v2 h2 (hm.zn hR t2.1 (fun r n hr hn => ?_)) t2.1
  rw [t2.2 r n hr hn]
  by_cases c : n < A 2 0
  · rw [if_pos c, if_pos c, if_pos (show 8 * r + n < 8 * A 2 1 by omega)]
  · rw [if_neg c, if_neg c]
end ZON
