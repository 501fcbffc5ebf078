/-! services and sessions: the small methods -/
theorem uv_id (v : cV) (kd i : Nat) : uv v kd i (v kd i) = v := by
  funext kd' i'
  unfold uv
  split
  · next h => rw [h.1, h.2]
  · rfl
theorem uv_uv (v : cV) (kd i : Nat) (g g' : Nat → Int32) : uv (uv v kd i g) kd i g' = uv v kd i g' := by
  funext kd' i'
  unfold uv
  split <;> rfl
theorem nI_rem4 : ∀ q, q < 8 → nI q - nI q / 4 * 4 = nI (q % 4) := by decide +kernel
abbrev lC (g : Nat → Int32) : xC := .inl (10, [.int (g 0), .int (g 1), .int (g 2), .int (g 3), .int (g 4)])
section SRV
variable {E : xE} {B nx : Nat} {M0 M : xM} {A : cA} {v : cV} {s : rS} {Q : Option Value → xM → Nat → Prop}
theorem cLb (h : cR E B M0 M A v) {i k : Nat} (hi : i < A 2 2) (hk : k < 8) : xb E ≤ A 5 i + (3 + k) := cad11 A hk ▸ h.1.lo (clv11 hi hk)
theorem cLs (h : cR E B M0 M A v) {i k : Nat} (hi : i < A 2 2) (hk : k < 8) {M' : xM} {g : Nat → Int32} (hn : jN M M' (A 5 i + (3 + k)) (lC g)) : cR E B M0 M' A (uv v 11 (8 * i + k) g) := h.set 11 (8 * i + k) (clv11 hi hk) (by rw [cad11 A hk]; exact hn)
set_option maxRecDepth 100000 in
set_option maxHeartbeats 4000000 in
theorem mc25 {x : Int32} (h : cR E B M0 M A v) (hm : v 0 0 7 = nI (A 2 2)) (hq : Q (some (.int (if x < 0 ∨ nI (A 2 2) ≤ x then 0 else 1))) M nx) : XC E 25 [.ref (A 0 0), .int x] M nx Q := by
  refine XC.run 60 [] ?_
  by_cases a : x < 0
  · rw [if_pos (Or.inl a)] at hq
    simp only [n25, t25, ↓xh, ↓xst, ↓xrunE, ↓rG, rL, rSt, updA, List.elem_nil, List.elem_cons, Nat.reduceBEq, Bool.false_eq_true, if_false, if_true, true_and, and_true, true_or, or_true, not_false_eq_true, Nat.reduceAdd, Nat.reduceSub, Nat.reduceLeDiff, Nat.reduceEqDiff, Nat.reduceLT, ↓reduceIte, List.length_cons, List.length_nil, List.set_cons_zero, List.set_cons_succ, Nat.le_refl, Nat.zero_le, Nat.zero_sub, Nat.sub_zero, List.nil_append, List.cons_append, Option.toList_some, Option.toList_none, eq_self, lT a]
    exact hq
  by_cases b : nI (A 2 2) ≤ x
  · rw [if_pos (Or.inr b)] at hq
    simp only [n25, t25, ↓xh, ↓xst, ↓xrunE, ↓rG, rL, rSt, updA, List.elem_nil, List.elem_cons, Nat.reduceBEq, Bool.false_eq_true, if_false, if_true, true_and, and_true, true_or, or_true, not_false_eq_true, Nat.reduceAdd, Nat.reduceSub, Nat.reduceLeDiff, Nat.reduceEqDiff, Nat.reduceLT, ↓reduceIte, List.length_cons, List.length_nil, List.set_cons_zero, List.set_cons_succ, Nat.le_refl, Nat.zero_le, Nat.zero_sub, Nat.sub_zero, List.nil_append, List.cons_append, Option.toList_some, Option.toList_none, eq_self, lF a, ↓cFx h, hm, eT b]
    exact hq
  · rw [if_neg (by simp [a, b])] at hq
    simp only [n25, t25, ↓xh, ↓xst, ↓xrunE, ↓rG, rL, rSt, updA, List.elem_nil, List.elem_cons, Nat.reduceBEq, Bool.false_eq_true, if_false, if_true, true_and, and_true, true_or, or_true, not_false_eq_true, Nat.reduceAdd, Nat.reduceSub, Nat.reduceLeDiff, Nat.reduceEqDiff, Nat.reduceLT, ↓reduceIte, List.length_cons, List.length_nil, List.set_cons_zero, List.set_cons_succ, Nat.le_refl, Nat.zero_le, Nat.zero_sub, Nat.sub_zero, List.nil_append, List.cons_append, Option.toList_some, Option.toList_none, eq_self, lF a, ↓cFx h, hm, eF b]
    exact hq
set_option maxRecDepth 100000 in
set_option maxHeartbeats 4000000 in
theorem mc29 {x : Int32} (h : cR E B M0 M A v) (hm : v 0 0 9 = nI (A 2 3)) (hq : Q (some (.int (if x < 0 ∨ nI (A 2 3) ≤ x then 0 else 1))) M nx) : XC E 29 [.ref (A 0 0), .int x] M nx Q := by
  refine XC.run 60 [] ?_
  by_cases a : x < 0
  · rw [if_pos (Or.inl a)] at hq
    simp only [n29, t29, ↓xh, ↓xst, ↓xrunE, ↓rG, rL, rSt, updA, List.elem_nil, List.elem_cons, Nat.reduceBEq, Bool.false_eq_true, if_false, if_true, true_and, and_true, true_or, or_true, not_false_eq_true, Nat.reduceAdd, Nat.reduceSub, Nat.reduceLeDiff, Nat.reduceEqDiff, Nat.reduceLT, ↓reduceIte, List.length_cons, List.length_nil, List.set_cons_zero, List.set_cons_succ, Nat.le_refl, Nat.zero_le, Nat.zero_sub, Nat.sub_zero, List.nil_append, List.cons_append, Option.toList_some, Option.toList_none, eq_self, lT a]
    exact hq
  by_cases b : nI (A 2 3) ≤ x
  · rw [if_pos (Or.inr b)] at hq
    simp only [n29, t29, ↓xh, ↓xst, ↓xrunE, ↓rG, rL, rSt, updA, List.elem_nil, List.elem_cons, Nat.reduceBEq, Bool.false_eq_true, if_false, if_true, true_and, and_true, true_or, or_true, not_false_eq_true, Nat.reduceAdd, Nat.reduceSub, Nat.reduceLeDiff, Nat.reduceEqDiff, Nat.reduceLT, ↓reduceIte, List.length_cons, List.length_nil, List.set_cons_zero, List.set_cons_succ, Nat.le_refl, Nat.zero_le, Nat.zero_sub, Nat.sub_zero, List.nil_append, List.cons_append, Option.toList_some, Option.toList_none, eq_self, lF a, ↓cFx h, hm, eT b]
    exact hq
  · rw [if_neg (by simp [a, b])] at hq
    simp only [n29, t29, ↓xh, ↓xst, ↓xrunE, ↓rG, rL, rSt, updA, List.elem_nil, List.elem_cons, Nat.reduceBEq, Bool.false_eq_true, if_false, if_true, true_and, and_true, true_or, or_true, not_false_eq_true, Nat.reduceAdd, Nat.reduceSub, Nat.reduceLeDiff, Nat.reduceEqDiff, Nat.reduceLT, ↓reduceIte, List.length_cons, List.length_nil, List.set_cons_zero, List.set_cons_succ, Nat.le_refl, Nat.zero_le, Nat.zero_sub, Nat.sub_zero, List.nil_append, List.cons_append, Option.toList_some, Option.toList_none, eq_self, lF a, ↓cFx h, hm, eF b]
    exact hq
set_option maxRecDepth 100000 in
set_option maxHeartbeats 4000000 in
theorem mc66 {i q : Nat} {x : Int32} (h : cR E B M0 M A v) (hi : i < A 2 2) (hq8 : q < 8) (hq : ∀ M', cR E B M0 M' A (uv (uv v 19 i (w [v 19 i 0, 0, 0, v 19 i 3, 0, v 19 i 5 + 1])) 20 i (if q ≤ 3 then v 20 i else upd (v 20 i) (q % 4) x)) → Q (some (.int (v 20 i (q % 4)))) M' nx) : XC E 66 [.ref (A 5 i), .int (nI q), .int x] M nx Q := by
  have b19 : xb E ≤ A 5 i := h.1.lo (kd := 19) (i := i) hi
  have b20 : xb E ≤ A 5 i + 1 := h.1.lo (kd := 20) (i := i) hi
  have iq := nIx (show q % 4 < 4 by omega)
  refine XC.run 60 [10, 33] ?_
  simp only [n66, t66, ↓xh, ↓xst, ↓xrunE, ↓rG, rL, rSt, updA, List.elem_nil, List.elem_cons, Nat.reduceBEq, Bool.false_eq_true, if_false, if_true, true_and, and_true, true_or, or_true, not_false_eq_true, Nat.reduceAdd, Nat.reduceSub, Nat.reduceLeDiff, Nat.reduceEqDiff, Nat.reduceLT, ↓reduceIte, List.length_cons, List.length_nil, List.set_cons_zero, List.set_cons_succ, Nat.le_refl, Nat.zero_le, Nat.zero_sub, Nat.sub_zero, List.nil_append, List.cons_append, Option.toList_some, Option.toList_none, eq_self, ↓cSv h hi, b19]
  refine XZ.abs2 (P := fun M' => cR E B M0 M' A (uv v 19 i (w [v 19 i 0, 0, 0, v 19 i 3, 0, v 19 i 5 + 1]))) (h.pw 19 i hi (w [v 19 i 0, 0, 0, v 19 i 3, 0, v 19 i 5 + 1]) rfl rfl) (fun M1 h1 => ?_)
  refine XZ.runH 60 [10, 33] ?_
  by_cases c : q ≤ 3
  · have l4 := lT (k2_lt (nI_ge (b := 4) (show q < 4 by omega) (by decide)))
    have l4' : nI q < 4 := k2_lt (nI_ge (b := 4) (show q < 4 by omega) (by decide))
    simp only [n66, t66, ↓xh, ↓xst, ↓xrunE, ↓rG, rL, rSt, updA, List.elem_nil, List.elem_cons, Nat.reduceBEq, Bool.false_eq_true, if_false, if_true, true_and, and_true, true_or, or_true, not_false_eq_true, Nat.reduceAdd, Nat.reduceSub, Nat.reduceLeDiff, Nat.reduceEqDiff, Nat.reduceLT, ↓reduceIte, List.length_cons, List.length_nil, List.set_cons_zero, List.set_cons_succ, Nat.le_refl, Nat.zero_le, Nat.zero_sub, Nat.sub_zero, List.nil_append, List.cons_append, Option.toList_some, Option.toList_none, eq_self, ↓cSv h1 hi, nI_rem4 q hq8, iq, show ¬ (4 : Int32) = 0 by decide, l4', uv_k (show (20 : Nat) ≠ 19 by decide)]
    refine XZ.runH 20 [] ?_
    simp only [n66, t66, ↓xh, ↓xst, ↓xrunE, ↓rG, rL, rSt, updA, List.elem_nil, List.elem_cons, Nat.reduceBEq, Bool.false_eq_true, if_false, if_true, true_and, and_true, true_or, or_true, not_false_eq_true, Nat.reduceAdd, Nat.reduceSub, Nat.reduceLeDiff, Nat.reduceEqDiff, Nat.reduceLT, ↓reduceIte, List.length_cons, List.length_nil, List.set_cons_zero, List.set_cons_succ, Nat.le_refl, Nat.zero_le, Nat.zero_sub, Nat.sub_zero, List.nil_append, List.cons_append, Option.toList_some, Option.toList_none, eq_self]
    refine hq _ ?_
    rw [if_pos c]
    have := uv_id (uv v 19 i (w [v 19 i 0, 0, 0, v 19 i 3, 0, v 19 i 5 + 1])) 20 i
    rw [uv_k (show (20 : Nat) ≠ 19 by decide)] at this
    rw [this]
    exact h1
  · have l4' : ¬ nI q < 4 := k2_nlt (nI_le (a := 4) (show 4 ≤ q by omega) (by omega))
    simp only [n66, t66, ↓xh, ↓xst, ↓xrunE, ↓rG, rL, rSt, updA, List.elem_nil, List.elem_cons, Nat.reduceBEq, Bool.false_eq_true, if_false, if_true, true_and, and_true, true_or, or_true, not_false_eq_true, Nat.reduceAdd, Nat.reduceSub, Nat.reduceLeDiff, Nat.reduceEqDiff, Nat.reduceLT, ↓reduceIte, List.length_cons, List.length_nil, List.set_cons_zero, List.set_cons_succ, Nat.le_refl, Nat.zero_le, Nat.zero_sub, Nat.sub_zero, List.nil_append, List.cons_append, Option.toList_some, Option.toList_none, eq_self, ↓cSv h1 hi, nI_rem4 q hq8, iq, show ¬ (4 : Int32) = 0 by decide, l4', uv_k (show (20 : Nat) ≠ 19 by decide), b20, xn0, updVi]
    refine XZ.abs2 (P := fun M' => cR E B M0 M' A (uv (uv v 19 i (w [v 19 i 0, 0, 0, v 19 i 3, 0, v 19 i 5 + 1])) 20 i (upd (v 20 i) (q % 4) x))) (h1.pw 20 i hi _ rfl rfl) (fun M2 h2 => ?_)
    refine XZ.runH 60 [] ?_
    simp only [n66, t66, ↓xh, ↓xst, ↓xrunE, ↓rG, rL, rSt, updA, List.elem_nil, List.elem_cons, Nat.reduceBEq, Bool.false_eq_true, if_false, if_true, true_and, and_true, true_or, or_true, not_false_eq_true, Nat.reduceAdd, Nat.reduceSub, Nat.reduceLeDiff, Nat.reduceEqDiff, Nat.reduceLT, ↓reduceIte, List.length_cons, List.length_nil, List.set_cons_zero, List.set_cons_succ, Nat.le_refl, Nat.zero_le, Nat.zero_sub, Nat.sub_zero, List.nil_append, List.cons_append, Option.toList_some, Option.toList_none, eq_self]
    rw [if_neg c] at hq
    exact hq _ h2
set_option maxRecDepth 100000 in
set_option maxHeartbeats 4000000 in
theorem ml65 {i : Nat} (h : cR E B M0 M A v) (hi : i < A 2 2) (hq : Q (some (.int (nI (cnt (fun k => decide (¬ v 11 (8 * i + k) 0 = 0)) 8)))) M nx) : ∀ l k, k + l = 8 → XZ E 65 (xZ E 65 Q) 4 [some (.ref (A 5 i)), some (.int (nI (cnt (fun k => decide (¬ v 11 (8 * i + k) 0 = 0)) k))), some (.int (nI k))] [] M nx 0 0 := by
  intro l
  induction l with
  | zero =>
    intro k hk
    obtain rfl : k = 8 := by omega
    refine XZ.runH 60 [4] ?_
    simp only [n65, t65, ↓xh, ↓xst, ↓xrunE, ↓rG, rL, rSt, updA, List.elem_nil, List.elem_cons, Nat.reduceBEq, Bool.false_eq_true, if_false, if_true, true_and, and_true, true_or, or_true, not_false_eq_true, Nat.reduceAdd, Nat.reduceSub, Nat.reduceLeDiff, Nat.reduceEqDiff, Nat.reduceLT, ↓reduceIte, List.length_cons, List.length_nil, List.set_cons_zero, List.set_cons_succ, Nat.le_refl, Nat.zero_le, Nat.zero_sub, Nat.sub_zero, List.nil_append, List.cons_append, Option.toList_some, Option.toList_none, eq_self, show (8 : Int32) ≤ nI 8 by decide]
    exact hq
  | succ l ih =>
    intro k hk
    have k8 : k < 8 := by omega
    have g : ¬ (8 : Int32) ≤ nI k := nI_ge (show k < 8 by omega) (by decide)
    have ik := nIx k8
    have z := ih (k + 1) (by omega)
    rw [cnt] at z
    refine XZ.runH 60 [4] ?_
    by_cases c : v 11 (8 * i + k) 0 = 0
    · rw [if_neg (by simp [c])] at z
      simp only [n65, t65, ↓xh, ↓xst, ↓xrunE, ↓rG, rL, rSt, updA, List.elem_nil, List.elem_cons, Nat.reduceBEq, Bool.false_eq_true, if_false, if_true, true_and, and_true, true_or, or_true, not_false_eq_true, Nat.reduceAdd, Nat.reduceSub, Nat.reduceLeDiff, Nat.reduceEqDiff, Nat.reduceLT, ↓reduceIte, List.length_cons, List.length_nil, List.set_cons_zero, List.set_cons_succ, Nat.le_refl, Nat.zero_le, Nat.zero_sub, Nat.sub_zero, List.nil_append, List.cons_append, Option.toList_some, Option.toList_none, eq_self, g, ik, k8, ↓cSv h hi, ↓cLi h hi k8, c, nI_1]
      exact z
    · rw [if_pos (by simp [c])] at z
      simp only [n65, t65, ↓xh, ↓xst, ↓xrunE, ↓rG, rL, rSt, updA, List.elem_nil, List.elem_cons, Nat.reduceBEq, Bool.false_eq_true, if_false, if_true, true_and, and_true, true_or, or_true, not_false_eq_true, Nat.reduceAdd, Nat.reduceSub, Nat.reduceLeDiff, Nat.reduceEqDiff, Nat.reduceLT, ↓reduceIte, List.length_cons, List.length_nil, List.set_cons_zero, List.set_cons_succ, Nat.le_refl, Nat.zero_le, Nat.zero_sub, Nat.sub_zero, List.nil_append, List.cons_append, Option.toList_some, Option.toList_none, eq_self, g, ik, k8, ↓cSv h hi, ↓cLi h hi k8, c, nI_1]
      exact z
set_option maxRecDepth 100000 in
set_option maxHeartbeats 4000000 in
theorem mc65 {i : Nat} (h : cR E B M0 M A v) (hi : i < A 2 2) (hs : cS1 v s i) (hq : Q (some (.int (s.2 20 i))) M nx) : XC E 65 [.ref (A 5 i)] M nx Q := by
  obtain ⟨_, _, _, _, _, _, L, hL, h20, ⟨σ, hl⟩, _⟩ := hs
  refine XC.run 60 [4] ?_
  simp only [n65, t65, ↓xh, ↓xst, ↓xrunE, ↓rG, rL, rSt, updA, List.elem_nil, List.elem_cons, Nat.reduceBEq, Bool.false_eq_true, if_false, if_true, true_and, and_true, true_or, or_true, not_false_eq_true, Nat.reduceAdd, Nat.reduceSub, Nat.reduceLeDiff, Nat.reduceEqDiff, Nat.reduceLT, ↓reduceIte, List.length_cons, List.length_nil, List.set_cons_zero, List.set_cons_succ, Nat.le_refl, Nat.zero_le, Nat.zero_sub, Nat.sub_zero, List.nil_append, List.cons_append, Option.toList_some, Option.toList_none, eq_self]
  refine ml65 h hi ?_ 8 0 rfl
  rw [hl.num, ← h20]
  exact hq
def rAcc (s : rS) (i : Nat) (k : Int32) : Int32 := if k < 0 ∨ 5 < k then 0 else if k = 4 then s.2 19 i else if k = 5 then s.2 20 i else s.2 18 (4 * i + k.toNatClampNeg)
set_option maxRecDepth 100000 in
set_option maxHeartbeats 4000000 in
theorem mc61 {i : Nat} {k : Int32} (h : cR E B M0 M A v) (hi : i < A 2 2) (hs : cS1 v s i) (hq : Q (some (.int (rAcc s i k))) M nx) : XC E 61 [.ref (A 5 i), .int k] M nx Q := by
  have rest : ¬ (¬ k < 0 ∧ k < 4) → XZ E 61 (xZ E 61 Q) 16 [some (.ref (A 5 i)), some (.int k)] [] M nx 0 0 := by
    intro z
    refine XZ.runH 60 [] ?_
    by_cases c4 : k = 4
    · subst c4
      simp only [rAcc, show ¬ ((4 : Int32) < 0 ∨ 5 < (4 : Int32)) by decide, if_false, if_true] at hq
      simp only [n61, t61, ↓xh, ↓xst, ↓xrunE, ↓rG, rL, rSt, updA, List.elem_nil, List.elem_cons, Nat.reduceBEq, Bool.false_eq_true, if_false, if_true, true_and, and_true, true_or, or_true, not_false_eq_true, Nat.reduceAdd, Nat.reduceSub, Nat.reduceLeDiff, Nat.reduceEqDiff, Nat.reduceLT, ↓reduceIte, List.length_cons, List.length_nil, List.set_cons_zero, List.set_cons_succ, Nat.le_refl, Nat.zero_le, Nat.zero_sub, Nat.sub_zero, List.nil_append, List.cons_append, Option.toList_some, Option.toList_none, eq_self, ↓cSv h hi, hs.2.2.2.2.1]
      exact hq
    by_cases c5 : k = 5
    · subst c5
      simp only [rAcc, show ¬ ((5 : Int32) < 0 ∨ 5 < (5 : Int32)) by decide, show ¬ (5 : Int32) = 4 by decide, if_false, if_true] at hq
      simp only [n61, n65, t61, ↓xh, ↓xst, ↓xrunE, ↓rG, rL, rSt, updA, List.elem_nil, List.elem_cons, Nat.reduceBEq, Bool.false_eq_true, if_false, if_true, true_and, and_true, true_or, or_true, not_false_eq_true, Nat.reduceAdd, Nat.reduceSub, Nat.reduceLeDiff, Nat.reduceEqDiff, Nat.reduceLT, ↓reduceIte, List.length_cons, List.length_nil, List.set_cons_zero, List.set_cons_succ, Nat.le_refl, Nat.zero_le, Nat.zero_sub, Nat.sub_zero, List.nil_append, List.cons_append, Option.toList_some, Option.toList_none, eq_self, c4, ↓cSv h hi]
      refine mc65 h hi hs ?_
      refine XZ.runH 20 [] ?_
      simp only [n61, t61, ↓xh, ↓xst, ↓xrunE, ↓rG, rL, rSt, updA, List.elem_nil, List.elem_cons, Nat.reduceBEq, Bool.false_eq_true, if_false, if_true, true_and, and_true, true_or, or_true, not_false_eq_true, Nat.reduceAdd, Nat.reduceSub, Nat.reduceLeDiff, Nat.reduceEqDiff, Nat.reduceLT, ↓reduceIte, List.length_cons, List.length_nil, List.set_cons_zero, List.set_cons_succ, Nat.le_refl, Nat.zero_le, Nat.zero_sub, Nat.sub_zero, List.nil_append, List.cons_append, Option.toList_some, Option.toList_none, eq_self]
      exact hq
    · simp only [n61, t61, ↓xh, ↓xst, ↓xrunE, ↓rG, rL, rSt, updA, List.elem_nil, List.elem_cons, Nat.reduceBEq, Bool.false_eq_true, if_false, if_true, true_and, and_true, true_or, or_true, not_false_eq_true, Nat.reduceAdd, Nat.reduceSub, Nat.reduceLeDiff, Nat.reduceEqDiff, Nat.reduceLT, ↓reduceIte, List.length_cons, List.length_nil, List.set_cons_zero, List.set_cons_succ, Nat.le_refl, Nat.zero_le, Nat.zero_sub, Nat.sub_zero, List.nil_append, List.cons_append, Option.toList_some, Option.toList_none, eq_self, c4, c5]
      have e : k < 0 ∨ 5 < k := by
        by_cases a : k < 0
        · exact Or.inl a
        · right
          obtain ⟨n, hn, rfl⟩ := nI_of a
          refine (nI_lti (a := 5) (by decide) hn).mpr ?_
          have n4 : ¬ n < 4 := fun y => z ⟨a, (nI_lti (b := 4) hn (by decide)).mpr y⟩
          have n4' : n ≠ 4 := fun y => c4 (by rw [y]; rfl)
          have n5' : n ≠ 5 := fun y => c5 (by rw [y]; rfl)
          omega
      simp only [rAcc, e, if_true] at hq
      exact hq
  refine XC.run 60 [16] ?_
  by_cases a : k < 0
  · simp only [n61, t61, ↓xh, ↓xst, ↓xrunE, ↓rG, rL, rSt, updA, List.elem_nil, List.elem_cons, Nat.reduceBEq, Bool.false_eq_true, if_false, if_true, true_and, and_true, true_or, or_true, not_false_eq_true, Nat.reduceAdd, Nat.reduceSub, Nat.reduceLeDiff, Nat.reduceEqDiff, Nat.reduceLT, ↓reduceIte, List.length_cons, List.length_nil, List.set_cons_zero, List.set_cons_succ, Nat.le_refl, Nat.zero_le, Nat.zero_sub, Nat.sub_zero, List.nil_append, List.cons_append, Option.toList_some, Option.toList_none, eq_self, lT a]
    exact rest (fun z => z.1 a)
  by_cases b : k < 4
  · obtain ⟨n, hn, rfl⟩ := nI_of a
    have n4 : n < 4 := (nI_lti (b := 4) hn (by decide)).mp b
    have i4 := nIx n4
    have e : ¬ (nI n < 0 ∨ 5 < nI n) := by
      rintro (z | z)
      · exact a z
      · have := (nI_lti (a := 5) (by decide) hn).mp z
        omega
    have e4 : ¬ nI n = 4 := fun z => by have := nI_inj (b := 4) hn (by decide) z; omega
    have e5 : ¬ nI n = 5 := fun z => by have := nI_inj (b := 5) hn (by decide) z; omega
    simp only [rAcc, e, e4, e5, if_false, nI_clamp hn] at hq
    simp only [n61, t61, ↓xh, ↓xst, ↓xrunE, ↓rG, rL, rSt, updA, List.elem_nil, List.elem_cons, Nat.reduceBEq, Bool.false_eq_true, if_false, if_true, true_and, and_true, true_or, or_true, not_false_eq_true, Nat.reduceAdd, Nat.reduceSub, Nat.reduceLeDiff, Nat.reduceEqDiff, Nat.reduceLT, ↓reduceIte, List.length_cons, List.length_nil, List.set_cons_zero, List.set_cons_succ, Nat.le_refl, Nat.zero_le, Nat.zero_sub, Nat.sub_zero, List.nil_append, List.cons_append, Option.toList_some, Option.toList_none, eq_self, lF a, lT b, ↓cSv h hi, i4, hs.2.2.2.2.2.1 n n4]
    exact hq
  · simp only [n61, t61, ↓xh, ↓xst, ↓xrunE, ↓rG, rL, rSt, updA, List.elem_nil, List.elem_cons, Nat.reduceBEq, Bool.false_eq_true, if_false, if_true, true_and, and_true, true_or, or_true, not_false_eq_true, Nat.reduceAdd, Nat.reduceSub, Nat.reduceLeDiff, Nat.reduceEqDiff, Nat.reduceLT, ↓reduceIte, List.length_cons, List.length_nil, List.set_cons_zero, List.set_cons_succ, Nat.le_refl, Nat.zero_le, Nat.zero_sub, Nat.sub_zero, List.nil_append, List.cons_append, Option.toList_some, Option.toList_none, eq_self, lF a, lF b]
    exact rest (fun z => b z.2)
/-- the places below k are released -/
def cRf (v v' : cV) (s : rS) (i k : Nat) : Prop := (∀ kd, kd ≠ 11 → v' kd = v kd) ∧ (∀ q, ¬ (8 * i ≤ q ∧ q < 8 * i + k) → v' 11 q = v 11 q) ∧ ∀ q, q < k → v' 11 (8 * i + q) = cRl s (v 11 (8 * i + q))
set_option maxRecDepth 100000 in
set_option maxHeartbeats 4000000 in
theorem ml63 {i : Nat} (hi : i < A 2 2) (hq : ∀ M' v', cR E B M0 M' A v' → cRf v v' s i 8 → Q none M' nx) : ∀ l k M1 v1, k + l = 8 → cR E B M0 M1 A v1 → cRf v v1 s i k → XZ E 63 (xZ E 63 Q) 2 [some (.ref (A 5 i)), some (.int (s.1 21 - s.1 2)), some (.int (nI k))] [] M1 nx 0 0 := by
  intro l
  induction l with
  | zero =>
    intro k M1 v1 hk h1 ht
    obtain rfl : k = 8 := by omega
    refine XZ.runH 60 [2] ?_
    simp only [n63, t63, ↓xh, ↓xst, ↓xrunE, ↓rG, rL, rSt, updA, List.elem_nil, List.elem_cons, Nat.reduceBEq, Bool.false_eq_true, if_false, if_true, true_and, and_true, true_or, or_true, not_false_eq_true, Nat.reduceAdd, Nat.reduceSub, Nat.reduceLeDiff, Nat.reduceEqDiff, Nat.reduceLT, ↓reduceIte, List.length_cons, List.length_nil, List.set_cons_zero, List.set_cons_succ, Nat.le_refl, Nat.zero_le, Nat.zero_sub, Nat.sub_zero, List.nil_append, List.cons_append, Option.toList_some, Option.toList_none, eq_self, show (8 : Int32) ≤ nI 8 by decide]
    exact hq M1 v1 h1 ht
  | succ l ih =>
    intro k M1 v1 hk h1 ht
    have k8 : k < 8 := by omega
    have g : ¬ (8 : Int32) ≤ nI k := nI_ge (show k < 8 by omega) (by decide)
    have ik := nIx k8
    have hb := cLb h1 hi k8
    have e0 : v1 11 (8 * i + k) = v 11 (8 * i + k) := ht.2.1 _ (by omega)
    refine XZ.runH 60 [2] ?_
    by_cases c : v 11 (8 * i + k) 4 ≤ s.1 21 - s.1 2
    · have c2 := eT c
      simp only [n63, t63, ↓xh, ↓xst, ↓xrunE, ↓rG, rL, rSt, updA, List.elem_nil, List.elem_cons, Nat.reduceBEq, Bool.false_eq_true, if_false, if_true, true_and, and_true, true_or, or_true, not_false_eq_true, Nat.reduceAdd, Nat.reduceSub, Nat.reduceLeDiff, Nat.reduceEqDiff, Nat.reduceLT, ↓reduceIte, List.length_cons, List.length_nil, List.set_cons_zero, List.set_cons_succ, Nat.le_refl, Nat.zero_le, Nat.zero_sub, Nat.sub_zero, List.nil_append, List.cons_append, Option.toList_some, Option.toList_none, eq_self, g, ik, k8, ↓cSv h1 hi, ↓cLi h1 hi k8, e0, c2, hb, nI_1]
      refine ih (k + 1) _ _ (by omega) (cLs h1 hi k8 (jN_put M1 _ (lC (w [0, v 11 (8 * i + k) 1, v 11 (8 * i + k) 2, v 11 (8 * i + k) 3, v 11 (8 * i + k) 4])))) ⟨fun kd a => by rw [uv_k a]; exact ht.1 kd a, fun q hq => ?_, fun q hq => ?_⟩
      · rw [uv_n (by omega)]
        exact ht.2.1 q (by omega)
      · by_cases e : q = k
        · subst e
          rw [uv_s, cRl, if_pos c]
        · rw [uv_n (by omega)]
          exact ht.2.2 q (by omega)
    · have c2 := eF c
      simp only [n63, t63, ↓xh, ↓xst, ↓xrunE, ↓rG, rL, rSt, updA, List.elem_nil, List.elem_cons, Nat.reduceBEq, Bool.false_eq_true, if_false, if_true, true_and, and_true, true_or, or_true, not_false_eq_true, Nat.reduceAdd, Nat.reduceSub, Nat.reduceLeDiff, Nat.reduceEqDiff, Nat.reduceLT, ↓reduceIte, List.length_cons, List.length_nil, List.set_cons_zero, List.set_cons_succ, Nat.le_refl, Nat.zero_le, Nat.zero_sub, Nat.sub_zero, List.nil_append, List.cons_append, Option.toList_some, Option.toList_none, eq_self, g, ik, k8, ↓cSv h1 hi, ↓cLi h1 hi k8, e0, c2, nI_1]
      refine ih (k + 1) M1 v1 (by omega) h1 ⟨ht.1, fun q hq => ht.2.1 q (by omega), fun q hq => ?_⟩
      by_cases e : q = k
      · subst e
        rw [e0, cRl, if_neg c]
      · exact ht.2.2 q (by omega)
set_option maxRecDepth 100000 in
set_option maxHeartbeats 4000000 in
theorem mc63 {i : Nat} (h : cR E B M0 M A v) (hi : i < A 2 2) (hm : cQ A v s) (hq : ∀ M' v', cR E B M0 M' A v' → cQ A v' (rRe i 8 s) → (∀ kd, kd ≠ 11 → v' kd = v kd) → Q none M' nx) : XC E 63 [.ref (A 5 i), .int (s.1 21 - s.1 2)] M nx Q := by
  refine XC.run 60 [2] ?_
  simp only [n63, t63, ↓xh, ↓xst, ↓xrunE, ↓rG, rL, rSt, updA, List.elem_nil, List.elem_cons, Nat.reduceBEq, Bool.false_eq_true, if_false, if_true, true_and, and_true, true_or, or_true, not_false_eq_true, Nat.reduceAdd, Nat.reduceSub, Nat.reduceLeDiff, Nat.reduceEqDiff, Nat.reduceLT, ↓reduceIte, List.length_cons, List.length_nil, List.set_cons_zero, List.set_cons_succ, Nat.le_refl, Nat.zero_le, Nat.zero_sub, Nat.sub_zero, List.nil_append, List.cons_append, Option.toList_some, Option.toList_none, eq_self]
  exact ml63 hi (fun M' v' h' t' => hq M' v' h' (hm.rel hi t'.1 t'.2.1 t'.2.2) t'.1) 8 0 M v rfl h ⟨fun _ _ => rfl, fun _ _ => rfl, fun q hq => by omega⟩
/-- a session's command begins; what it hears -/
def cBg (g : Nat → Int32) (k x p : Int32) : Nat → Int32 := w [g 0, g 1, 0, g 3, g 4, g 5 + 1, 1, k, x, (1 <<< (p &&& 31)) - 1, 0, g 11, g 12]
set_option maxRecDepth 100000 in
set_option maxHeartbeats 4000000 in
theorem mc69 {c : Nat} {k x p : Int32} (h : cR E B M0 M A v) (hc : c < A 2 3) (hq : ∀ M', cR E B M0 M' A (uv v 22 c (cBg (v 22 c) k x p)) → Q none M' nx) : XC E 69 [.ref (A 6 c), .int k, .int x, .int p] M nx Q := by
  have hb : xb E ≤ A 6 c := h.1.lo (kd := 22) (i := c) hc
  refine XC.run 60 [] ?_
  simp only [n69, t69, ↓xh, ↓xst, ↓xrunE, ↓rG, rL, rSt, updA, List.elem_nil, List.elem_cons, Nat.reduceBEq, Bool.false_eq_true, if_false, if_true, true_and, and_true, true_or, or_true, not_false_eq_true, Nat.reduceAdd, Nat.reduceSub, Nat.reduceLeDiff, Nat.reduceEqDiff, Nat.reduceLT, ↓reduceIte, List.length_cons, List.length_nil, List.set_cons_zero, List.set_cons_succ, Nat.le_refl, Nat.zero_le, Nat.zero_sub, Nat.sub_zero, List.nil_append, List.cons_append, Option.toList_some, Option.toList_none, eq_self, ↓cSe h hc, ↓xoP, xpp, hb]
  exact hq _ (h.pw 22 c hc (cBg (v 22 c) k x p) rfl rfl)
def cHr (g : Nat → Int32) (j : Int32) : Nat → Int32 := if (if j = 0 then g 4 + 1 else 0) < 5 then w [g 0, g 1, 0, g 3, if j = 0 then g 4 + 1 else 0, g 5, g 6, g 7, g 8, g 9, g 10, g 11, g 12] else w [g 0, g 1, 0, 1, if j = 0 then g 4 + 1 else 0, g 5, if g 6 = 1 then 3 else g 6, g 7, g 8, g 9, g 10, g 11, g 12]
set_option maxRecDepth 100000 in
set_option maxHeartbeats 4000000 in
theorem mc70 {c : Nat} {j : Int32} (h : cR E B M0 M A v) (hc : c < A 2 3) (hq : ∀ M', cR E B M0 M' A (uv v 22 c (cHr (v 22 c) j)) → Q none M' nx) : XC E 70 [.ref (A 6 c), .int j] M nx Q := by
  have hb : xb E ≤ A 6 c := h.1.lo (kd := 22) (i := c) hc
  have fin : ∀ sl M1, cR E B M0 M1 A (uv v 22 c (w [v 22 c 0, v 22 c 1, 0, v 22 c 3, sl, v 22 c 5, v 22 c 6, v 22 c 7, v 22 c 8, v 22 c 9, v 22 c 10, v 22 c 11, v 22 c 12])) → (∀ M', cR E B M0 M' A (uv v 22 c (if sl < 5 then w [v 22 c 0, v 22 c 1, 0, v 22 c 3, sl, v 22 c 5, v 22 c 6, v 22 c 7, v 22 c 8, v 22 c 9, v 22 c 10, v 22 c 11, v 22 c 12] else w [v 22 c 0, v 22 c 1, 0, 1, sl, v 22 c 5, if v 22 c 6 = 1 then 3 else v 22 c 6, v 22 c 7, v 22 c 8, v 22 c 9, v 22 c 10, v 22 c 11, v 22 c 12])) → Q none M' nx) → XZ E 70 (xZ E 70 Q) 18 [some (.ref (A 6 c)), some (.int j)] [] M1 nx 0 0 := by
    intro sl M1 h1 k
    have o1 := cSe h1 hc
    simp only [uv_s, w, List.getD_cons_zero, List.getD_cons_succ] at o1
    refine XZ.runH 60 [] ?_
    by_cases c5 : sl < 5
    · rw [if_pos c5] at k
      simp only [n70, t70, ↓xh, ↓xst, ↓xrunE, ↓rG, rL, rSt, updA, List.elem_nil, List.elem_cons, Nat.reduceBEq, Bool.false_eq_true, if_false, if_true, true_and, and_true, true_or, or_true, not_false_eq_true, Nat.reduceAdd, Nat.reduceSub, Nat.reduceLeDiff, Nat.reduceEqDiff, Nat.reduceLT, ↓reduceIte, List.length_cons, List.length_nil, List.set_cons_zero, List.set_cons_succ, Nat.le_refl, Nat.zero_le, Nat.zero_sub, Nat.sub_zero, List.nil_append, List.cons_append, Option.toList_some, Option.toList_none, eq_self, ↓o1, c5]
      exact k _ h1
    rw [if_neg c5] at k
    by_cases c6 : v 22 c 6 = 1
    · rw [if_pos c6] at k
      simp only [n70, t70, ↓xh, ↓xst, ↓xrunE, ↓rG, rL, rSt, updA, List.elem_nil, List.elem_cons, Nat.reduceBEq, Bool.false_eq_true, if_false, if_true, true_and, and_true, true_or, or_true, not_false_eq_true, Nat.reduceAdd, Nat.reduceSub, Nat.reduceLeDiff, Nat.reduceEqDiff, Nat.reduceLT, ↓reduceIte, List.length_cons, List.length_nil, List.set_cons_zero, List.set_cons_succ, Nat.le_refl, Nat.zero_le, Nat.zero_sub, Nat.sub_zero, List.nil_append, List.cons_append, Option.toList_some, Option.toList_none, eq_self, ↓o1, ↓xoP, xpp, hb, c5, c6]
      have := h1.pw 22 c hc (w [v 22 c 0, v 22 c 1, 0, 1, sl, v 22 c 5, 3, v 22 c 7, v 22 c 8, v 22 c 9, v 22 c 10, v 22 c 11, v 22 c 12]) rfl rfl
      rw [uv_uv] at this
      exact k _ this
    · rw [if_neg c6] at k
      simp only [n70, t70, ↓xh, ↓xst, ↓xrunE, ↓rG, rL, rSt, updA, List.elem_nil, List.elem_cons, Nat.reduceBEq, Bool.false_eq_true, if_false, if_true, true_and, and_true, true_or, or_true, not_false_eq_true, Nat.reduceAdd, Nat.reduceSub, Nat.reduceLeDiff, Nat.reduceEqDiff, Nat.reduceLT, ↓reduceIte, List.length_cons, List.length_nil, List.set_cons_zero, List.set_cons_succ, Nat.le_refl, Nat.zero_le, Nat.zero_sub, Nat.sub_zero, List.nil_append, List.cons_append, Option.toList_some, Option.toList_none, eq_self, ↓o1, ↓xoP, xpp, hb, c5, c6]
      have := h1.pw 22 c hc (w [v 22 c 0, v 22 c 1, 0, 1, sl, v 22 c 5, v 22 c 6, v 22 c 7, v 22 c 8, v 22 c 9, v 22 c 10, v 22 c 11, v 22 c 12]) rfl rfl
      rw [uv_uv] at this
      exact k _ this
  rw [cHr] at hq
  refine XC.run 60 [18] ?_
  by_cases z : j = 0
  · simp only [z, if_true] at hq
    simp only [n70, t70, ↓xh, ↓xst, ↓xrunE, ↓rG, rL, rSt, updA, List.elem_nil, List.elem_cons, Nat.reduceBEq, Bool.false_eq_true, if_false, if_true, true_and, and_true, true_or, or_true, not_false_eq_true, Nat.reduceAdd, Nat.reduceSub, Nat.reduceLeDiff, Nat.reduceEqDiff, Nat.reduceLT, ↓reduceIte, List.length_cons, List.length_nil, List.set_cons_zero, List.set_cons_succ, Nat.le_refl, Nat.zero_le, Nat.zero_sub, Nat.sub_zero, List.nil_append, List.cons_append, Option.toList_some, Option.toList_none, eq_self, ↓cSe h hc, hb, z]
    rw [z] at fin
    exact fin (v 22 c 4 + 1) _ (h.pw 22 c hc (w [v 22 c 0, v 22 c 1, 0, v 22 c 3, v 22 c 4 + 1, v 22 c 5, v 22 c 6, v 22 c 7, v 22 c 8, v 22 c 9, v 22 c 10, v 22 c 11, v 22 c 12]) rfl rfl) hq
  · simp only [z, if_false] at hq
    simp only [n70, t70, ↓xh, ↓xst, ↓xrunE, ↓rG, rL, rSt, updA, List.elem_nil, List.elem_cons, Nat.reduceBEq, Bool.false_eq_true, if_false, if_true, true_and, and_true, true_or, or_true, not_false_eq_true, Nat.reduceAdd, Nat.reduceSub, Nat.reduceLeDiff, Nat.reduceEqDiff, Nat.reduceLT, ↓reduceIte, List.length_cons, List.length_nil, List.set_cons_zero, List.set_cons_succ, Nat.le_refl, Nat.zero_le, Nat.zero_sub, Nat.sub_zero, List.nil_append, List.cons_append, Option.toList_some, Option.toList_none, eq_self, ↓cSe h hc, hb, z]
    exact fin 0 _ (h.pw 22 c hc (w [v 22 c 0, v 22 c 1, 0, v 22 c 3, 0, v 22 c 5, v 22 c 6, v 22 c 7, v 22 c 8, v 22 c 9, v 22 c 10, v 22 c 11, v 22 c 12]) rfl rfl) hq
/-- the free place -/
def cFv (A : cA) (i : Nat) : Option Nat → Value
  | none => .null
  | some k => .ref (A 5 i + (3 + k))
end SRV
