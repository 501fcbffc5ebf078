/-! a router made -/
def zE : Nat → Int32 := fun _ => 0
/-- a router at p, k of its entries are made; all else is as in M0 -/
def rtP (M0 M : xM) (p : Nat) (mask pc : Int32) (k : Nat) : Prop := M p = some (.inl (6, [.ref (p + 1), .int pc, .int 0, .ref (p + 2), .ref (p + 3), .ref (p + 4)])) ∧ M (p + 1) = some (.inr (2, 8, fun j => .int (if j < k ∧ rBit mask j = true then 1 else 0))) ∧ M (p + 2) = some (.inr (8, 8, fun j => if j < k then .ref (p + (5 + j)) else .null)) ∧ M (p + 3) = some (.inr (0, 8, fun _ => .int 0)) ∧ M (p + 4) = some (.inr (0, 8, fun _ => .int 0)) ∧ (∀ j, j < k → M (p + (5 + j)) = some (eC zE)) ∧ ∀ q, ¬ (p ≤ q ∧ q < p + (5 + k)) → M q = M0 q
theorem cx6 : xdef 6 = [.null, .int 0, .int 0, .null, .null, .null] := by decide +kernel
theorem cx7 : xdef 7 = [.int 0, .int 0, .int 0, .int 0, .int 0, .int 0, .int 0] := by decide +kernel
theorem xoN {M : xM} {a b c ci : Nat} {z : xC} {fs : List Value} (h : M a = some (.inl (ci, fs))) (hn : a ≠ b) (hc : c = ci) : ∀ P, xobj (xput M b z) a c P = P fs := fun P => by
  subst hc
  unfold xobj
  rw [xput_ne hn, h]
  simp
section RTM
variable {E : xE} {nx : Nat} {M : xM} {Q : Option Value → xM → Nat → Prop}
set_option maxRecDepth 100000 in
set_option maxHeartbeats 4000000 in
theorem ec55 {e : Nat} (hq : Q none M nx) : XC E 55 [.ref e] M nx Q := by
  refine XC.run 20 [] ?_
  simp only [n55, t55, ↓xh, ↓xst, ↓xrunE, ↓rG, rL, rSt, updA, List.elem_nil, List.elem_cons, Nat.reduceBEq, Bool.false_eq_true, if_false, if_true, true_and, and_true, true_or, or_true, not_false_eq_true, Nat.reduceAdd, Nat.reduceSub, Nat.reduceLeDiff, Nat.reduceEqDiff, Nat.reduceLT, ↓reduceIte, List.length_cons, List.length_nil, List.set_cons_zero, List.set_cons_succ, Nat.le_refl, Nat.zero_le, Nat.zero_sub, Nat.sub_zero, List.nil_append, List.cons_append, Option.toList_some, Option.toList_none, eq_self]
  exact hq
set_option maxRecDepth 100000 in
set_option maxHeartbeats 4000000 in
theorem ml48 {M0 : xM} {p : Nat} {mask : Int32} (hb : xb E ≤ p) (hq : ∀ M', rtP M0 M' p mask 0 8 → XZ E 48 (xZ E 48 Q) 84 [some (.ref p), some (.int mask), some (.int (nI 8))] [] M' (p + 13) 0 0) : ∀ l k M1, k + l = 8 → rtP M0 M1 p mask 0 k → XZ E 48 (xZ E 48 Q) 39 [some (.ref p), some (.int mask), some (.int (nI k))] [] M1 (p + (5 + k)) l (7 * l) := by
  intro l
  induction l with
  | zero =>
    intro k M1 hk h
    obtain rfl : k = 8 := by omega
    refine XZ.runH 60 [39, 84] ?_
    simp only [n48, t48, ↓xh, ↓xst, ↓xrunE, ↓rG, rL, rSt, updA, List.elem_nil, List.elem_cons, Nat.reduceBEq, Bool.false_eq_true, if_false, if_true, true_and, and_true, true_or, or_true, not_false_eq_true, Nat.reduceAdd, Nat.reduceSub, Nat.reduceLeDiff, Nat.reduceEqDiff, Nat.reduceLT, ↓reduceIte, List.length_cons, List.length_nil, List.set_cons_zero, List.set_cons_succ, Nat.le_refl, Nat.zero_le, Nat.zero_sub, Nat.sub_zero, List.nil_append, List.cons_append, Option.toList_some, Option.toList_none, eq_self, show (8 : Int32) ≤ nI 8 by decide]
    exact hq M1 h
  | succ l ih =>
    intro k M1 hk h
    obtain ⟨h0, h1, h2, h3, h4, h5, h6⟩ := id h
    have k8 : k < 8 := by omega
    have g : ¬ (8 : Int32) ≤ nI k := nI_ge (show k < 8 by omega) (by decide)
    have ik := nIx k8
    have ports : ∀ x, x = (if rBit mask k = true then (1 : Int32) else 0) → updV (fun j => Value.int (if j < k ∧ rBit mask j = true then 1 else 0)) k (.int x) = fun j => Value.int (if j < k + 1 ∧ rBit mask j = true then 1 else 0) := by
      intro x hx
      rw [updVi]
      funext j
      unfold upd
      by_cases e : j = k
      · subst e
        rw [if_pos rfl, hx]
        by_cases y : rBit mask j = true
        · simp [y]
        · simp [y]
      · rw [if_neg e]
        by_cases y : j < k
        · simp [y, show j < k + 1 by omega]
        · simp [y, show ¬ j < k + 1 by omega]
    have fin : ∀ M2, M2 (p + 1) = some (.inr (2, 8, fun j => .int (if j < k + 1 ∧ rBit mask j = true then 1 else 0))) → (∀ q, q ≠ p + 1 → M2 q = M1 q) → XZ E 48 (xZ E 48 Q) 65 [some (.ref p), some (.int mask), some (.int (nI k))] [] M2 (p + (5 + k)) (l + 1) (7 * (l + 1)) := by
      intro M2 e1 e2
      have o0 : ∀ P, xobj M2 p 6 P = P [.ref (p + 1), .int 0, .int 0, .ref (p + 2), .ref (p + 3), .ref (p + 4)] := cO (by rw [e2 p (by omega)]; exact h0)
      refine XZ.runH 60 [73] ?_
      simp only [n48, t48, ↓xh, ↓xst, ↓xrunE, ↓rG, rL, rSt, updA, List.elem_nil, List.elem_cons, Nat.reduceBEq, Bool.false_eq_true, if_false, if_true, true_and, and_true, true_or, or_true, not_false_eq_true, Nat.reduceAdd, Nat.reduceSub, Nat.reduceLeDiff, Nat.reduceEqDiff, Nat.reduceLT, ↓reduceIte, List.length_cons, List.length_nil, List.set_cons_zero, List.set_cons_succ, Nat.le_refl, Nat.zero_le, Nat.zero_sub, Nat.sub_zero, List.nil_append, List.cons_append, Option.toList_some, Option.toList_none, eq_self, ↓o0, cx7, show 1 ≤ l + 1 by omega, show 7 ≤ 7 * (l + 1) by omega, show 7 * (l + 1) - 7 = 7 * l by omega, Nat.add_sub_cancel]
      refine XZ.abs2 (P := fun M' => jN M2 M' (p + (5 + k)) (eC zE)) (jN_put M2 _ (eC zE)) (fun M3 j3 => ?_)
      have a2 : ∀ P, xarr M3 (p + 2) P = P 8 8 (fun j => if j < k then .ref (p + (5 + j)) else .null) := fun P => xhar (by rw [j3.2 _ (by omega), e2 _ (by omega)]; exact h2)
      have b2 : xb E ≤ p + 2 := by omega
      refine XZ.runH 60 [39] ?_
      simp only [n48, n55, t48, ↓xh, ↓xst, ↓xrunE, ↓rG, rL, rSt, updA, List.elem_nil, List.elem_cons, Nat.reduceBEq, Bool.false_eq_true, if_false, if_true, true_and, and_true, true_or, or_true, not_false_eq_true, Nat.reduceAdd, Nat.reduceSub, Nat.reduceLeDiff, Nat.reduceEqDiff, Nat.reduceLT, ↓reduceIte, List.length_cons, List.length_nil, List.set_cons_zero, List.set_cons_succ, Nat.le_refl, Nat.zero_le, Nat.zero_sub, Nat.sub_zero, List.nil_append, List.cons_append, Option.toList_some, Option.toList_none, eq_self]
      refine ec55 ?_
      refine XZ.runH 60 [39] ?_
      simp only [n48, t48, ↓xh, ↓xst, ↓xrunE, ↓rG, rL, rSt, updA, List.elem_nil, List.elem_cons, Nat.reduceBEq, Bool.false_eq_true, if_false, if_true, true_and, and_true, true_or, or_true, not_false_eq_true, Nat.reduceAdd, Nat.reduceSub, Nat.reduceLeDiff, Nat.reduceEqDiff, Nat.reduceLT, ↓reduceIte, List.length_cons, List.length_nil, List.set_cons_zero, List.set_cons_succ, Nat.le_refl, Nat.zero_le, Nat.zero_sub, Nat.sub_zero, List.nil_append, List.cons_append, Option.toList_some, Option.toList_none, eq_self, ↓a2, ik, b2, xaR, show xaci 8 = 7 by decide, ↓cO j3.1, nI_1, show p + (5 + k) + 1 = p + (5 + (k + 1)) by omega]
      refine ih (k + 1) _ (by omega) ⟨?_, ?_, ?_, ?_, ?_, fun j hj => ?_, fun q hq => ?_⟩
      · rw [xput_ne (by omega), j3.2 _ (by omega), e2 _ (by omega)]; exact h0
      · rw [xput_ne (by omega), j3.2 _ (by omega)]; exact e1
      · rw [xput_same]
        congr 4
        funext j
        unfold updV
        by_cases e : j = k
        · rw [if_pos e, if_pos (by omega), e]
        · rw [if_neg e]
          dsimp only
          by_cases y : j < k
          · rw [if_pos y, if_pos (by omega)]
          · rw [if_neg y, if_neg (by omega)]
      · rw [xput_ne (by omega), j3.2 _ (by omega), e2 _ (by omega)]; exact h3
      · rw [xput_ne (by omega), j3.2 _ (by omega), e2 _ (by omega)]; exact h4
      · rw [xput_ne (by omega)]
        by_cases e : j = k
        · rw [e]; exact j3.1
        · rw [j3.2 _ (by omega), e2 _ (by omega)]; exact h5 j (by omega)
      · rw [xput_ne (by omega), j3.2 _ (by omega), e2 _ (by omega)]; exact h6 q (by omega)
    have b1 : xb E ≤ p + 1 := by omega
    have a1 : ∀ P, xarr M1 (p + 1) P = P 2 8 (fun j => .int (if j < k ∧ rBit mask j = true then 1 else 0)) := fun P => xhar h1
    refine XZ.runH 60 [39, 65, 84] ?_
    by_cases c : mask >>> (nI k &&& 31) &&& 1 = 1
    · have rb : rBit mask k = true := by unfold rBit; exact decide_eq_true c
      simp only [n48, t48, ↓xh, ↓xst, ↓xrunE, ↓rG, rL, rSt, updA, List.elem_nil, List.elem_cons, Nat.reduceBEq, Bool.false_eq_true, if_false, if_true, true_and, and_true, true_or, or_true, not_false_eq_true, Nat.reduceAdd, Nat.reduceSub, Nat.reduceLeDiff, Nat.reduceEqDiff, Nat.reduceLT, ↓reduceIte, List.length_cons, List.length_nil, List.set_cons_zero, List.set_cons_succ, Nat.le_refl, Nat.zero_le, Nat.zero_sub, Nat.sub_zero, List.nil_append, List.cons_append, Option.toList_some, Option.toList_none, eq_self, g, ↓cO h0, ↓a1, ik, c, b1, xn2b, ports 1 (by rw [if_pos rb])]
      exact fin _ (xput_same _ _ _) (fun q hq => xput_ne hq)
    · have rb : ¬ rBit mask k = true := by unfold rBit; exact fun z => c (of_decide_eq_true z)
      simp only [n48, t48, ↓xh, ↓xst, ↓xrunE, ↓rG, rL, rSt, updA, List.elem_nil, List.elem_cons, Nat.reduceBEq, Bool.false_eq_true, if_false, if_true, true_and, and_true, true_or, or_true, not_false_eq_true, Nat.reduceAdd, Nat.reduceSub, Nat.reduceLeDiff, Nat.reduceEqDiff, Nat.reduceLT, ↓reduceIte, List.length_cons, List.length_nil, List.set_cons_zero, List.set_cons_succ, Nat.le_refl, Nat.zero_le, Nat.zero_sub, Nat.sub_zero, List.nil_append, List.cons_append, Option.toList_some, Option.toList_none, eq_self, g, ↓cO h0, ↓a1, ik, c, b1, xn2a, ports 0 (by rw [if_neg rb])]
      exact fin _ (xput_same _ _ _) (fun q hq => xput_ne hq)
set_option maxRecDepth 100000 in
set_option maxHeartbeats 4000000 in
theorem mc48 {p : Nat} {mask : Int32} (hb : xb E ≤ p) (h : M p = some (.inl (6, [.null, .int 0, .int 0, .null, .null, .null]))) (hq : ∀ M', rtP M M' p mask (jBc mask) 8 → Q none M' (p + 13)) : XC E 48 [.ref p, .int mask] M (p + 1) Q := by
  have i8 : Int32.toNatClampNeg 8 = 8 := by decide
  have o0 : ∀ P, xobj M p 6 P = P [.null, .int 0, .int 0, .null, .null, .null] := cO h
  have oN : ∀ (M' : xM) z, ∀ d, 0 < d → (∀ P, xobj M' p 6 P = P z) → ∀ c P, xobj (xput M' (p + d) c) p 6 P = P z := by
    intro M' z d hd h' c P
    unfold xobj at h' ⊢
    rw [xput_ne (by omega)]
    exact h' P
  refine XC.run 60 [12, 21, 30, 39] ?_
  simp only [n48, t48, ↓xh, ↓xst, ↓xrunE, ↓rG, rL, rSt, updA, List.elem_nil, List.elem_cons, Nat.reduceBEq, Bool.false_eq_true, if_false, if_true, true_and, and_true, true_or, or_true, not_false_eq_true, Nat.reduceAdd, Nat.reduceSub, Nat.reduceLeDiff, Nat.reduceEqDiff, Nat.reduceLT, ↓reduceIte, List.length_cons, List.length_nil, List.set_cons_zero, List.set_cons_succ, Nat.le_refl, Nat.zero_le, Nat.zero_sub, Nat.sub_zero, List.nil_append, List.cons_append, Option.toList_some, Option.toList_none, eq_self, show ¬ (8 : Int32) < 0 by decide, i8, Nat.reduceLeDiff, ↓oN M _ 1 (by omega) o0, hb]
  refine XZ.abs2 (P := fun M' => M' p = some (.inl (6, [.ref (p + 1), .int 0, .int 0, .null, .null, .null])) ∧ M' (p + 1) = some (.inr (2, 8, fun _ => .int 0)) ∧ ∀ q, ¬ (p ≤ q ∧ q < p + 2) → M' q = M q) ⟨xput_same _ _ _, by rw [xput_ne (by omega), xput_same], fun q hq => by rw [xput_ne (by omega), xput_ne (by omega)]⟩ (fun M1 j1 => ?_)
  refine XZ.runH 60 [12, 21, 30, 39] ?_
  simp only [n48, t48, ↓xh, ↓xst, ↓xrunE, ↓rG, rL, rSt, updA, List.elem_nil, List.elem_cons, Nat.reduceBEq, Bool.false_eq_true, if_false, if_true, true_and, and_true, true_or, or_true, not_false_eq_true, Nat.reduceAdd, Nat.reduceSub, Nat.reduceLeDiff, Nat.reduceEqDiff, Nat.reduceLT, ↓reduceIte, List.length_cons, List.length_nil, List.set_cons_zero, List.set_cons_succ, Nat.le_refl, Nat.zero_le, Nat.zero_sub, Nat.sub_zero, List.nil_append, List.cons_append, Option.toList_some, Option.toList_none, eq_self, show ¬ (8 : Int32) < 0 by decide, i8, Nat.reduceLeDiff, ↓oN M1 _ 2 (by omega) (cO j1.1), hb]
  refine XZ.abs2 (P := fun M' => M' p = some (.inl (6, [.ref (p + 1), .int 0, .int 0, .ref (p + 2), .null, .null])) ∧ M' (p + 1) = some (.inr (2, 8, fun _ => .int 0)) ∧ M' (p + 2) = some (.inr (8, 8, fun _ => .null)) ∧ ∀ q, ¬ (p ≤ q ∧ q < p + 3) → M' q = M q) ⟨xput_same _ _ _, by rw [xput_ne (by omega), xput_ne (by omega)]; exact j1.2.1, by rw [xput_ne (by omega), xput_same], fun q hq => by rw [xput_ne (by omega), xput_ne (by omega)]; exact j1.2.2 q (by omega)⟩ (fun M2 j2 => ?_)
  refine XZ.runH 60 [12, 21, 30, 39] ?_
  simp only [n48, t48, ↓xh, ↓xst, ↓xrunE, ↓rG, rL, rSt, updA, List.elem_nil, List.elem_cons, Nat.reduceBEq, Bool.false_eq_true, if_false, if_true, true_and, and_true, true_or, or_true, not_false_eq_true, Nat.reduceAdd, Nat.reduceSub, Nat.reduceLeDiff, Nat.reduceEqDiff, Nat.reduceLT, ↓reduceIte, List.length_cons, List.length_nil, List.set_cons_zero, List.set_cons_succ, Nat.le_refl, Nat.zero_le, Nat.zero_sub, Nat.sub_zero, List.nil_append, List.cons_append, Option.toList_some, Option.toList_none, eq_self, show ¬ (8 : Int32) < 0 by decide, i8, Nat.reduceLeDiff, ↓oN M2 _ 3 (by omega) (cO j2.1), hb]
  refine XZ.abs2 (P := fun M' => M' p = some (.inl (6, [.ref (p + 1), .int 0, .int 0, .ref (p + 2), .ref (p + 3), .null])) ∧ M' (p + 1) = some (.inr (2, 8, fun _ => .int 0)) ∧ M' (p + 2) = some (.inr (8, 8, fun _ => .null)) ∧ M' (p + 3) = some (.inr (0, 8, fun _ => .int 0)) ∧ ∀ q, ¬ (p ≤ q ∧ q < p + 4) → M' q = M q) ⟨xput_same _ _ _, by rw [xput_ne (by omega), xput_ne (by omega)]; exact j2.2.1, by rw [xput_ne (by omega), xput_ne (by omega)]; exact j2.2.2.1, by rw [xput_ne (by omega), xput_same], fun q hq => by rw [xput_ne (by omega), xput_ne (by omega)]; exact j2.2.2.2 q (by omega)⟩ (fun M3 j3 => ?_)
  refine XZ.runH 60 [12, 21, 30, 39] ?_
  simp only [n48, t48, ↓xh, ↓xst, ↓xrunE, ↓rG, rL, rSt, updA, List.elem_nil, List.elem_cons, Nat.reduceBEq, Bool.false_eq_true, if_false, if_true, true_and, and_true, true_or, or_true, not_false_eq_true, Nat.reduceAdd, Nat.reduceSub, Nat.reduceLeDiff, Nat.reduceEqDiff, Nat.reduceLT, ↓reduceIte, List.length_cons, List.length_nil, List.set_cons_zero, List.set_cons_succ, Nat.le_refl, Nat.zero_le, Nat.zero_sub, Nat.sub_zero, List.nil_append, List.cons_append, Option.toList_some, Option.toList_none, eq_self, show ¬ (8 : Int32) < 0 by decide, i8, Nat.reduceLeDiff, ↓oN M3 _ 4 (by omega) (cO j3.1), hb]
  refine ml48 (M0 := M) hb (fun M' t' => ?_) 8 0 _ rfl ⟨xput_same _ _ _, ?_, ?_, ?_, ?_, fun j hj => by omega, fun q hq => ?_⟩
  · refine XZ.runH 60 [] ?_
    simp only [n48, n139, t48, ↓xh, ↓xst, ↓xrunE, ↓rG, rL, rSt, updA, List.elem_nil, List.elem_cons, Nat.reduceBEq, Bool.false_eq_true, if_false, if_true, true_and, and_true, true_or, or_true, not_false_eq_true, Nat.reduceAdd, Nat.reduceSub, Nat.reduceLeDiff, Nat.reduceEqDiff, Nat.reduceLT, ↓reduceIte, List.length_cons, List.length_nil, List.set_cons_zero, List.set_cons_succ, Nat.le_refl, Nat.zero_le, Nat.zero_sub, Nat.sub_zero, List.nil_append, List.cons_append, Option.toList_some, Option.toList_none, eq_self]
    refine jc139 ?_
    refine XZ.runH 60 [] ?_
    simp only [n48, t48, ↓xh, ↓xst, ↓xrunE, ↓rG, rL, rSt, updA, List.elem_nil, List.elem_cons, Nat.reduceBEq, Bool.false_eq_true, if_false, if_true, true_and, and_true, true_or, or_true, not_false_eq_true, Nat.reduceAdd, Nat.reduceSub, Nat.reduceLeDiff, Nat.reduceEqDiff, Nat.reduceLT, ↓reduceIte, List.length_cons, List.length_nil, List.set_cons_zero, List.set_cons_succ, Nat.le_refl, Nat.zero_le, Nat.zero_sub, Nat.sub_zero, List.nil_append, List.cons_append, Option.toList_some, Option.toList_none, eq_self, ↓cO t'.1, hb]
    obtain ⟨t0, t1, t2, t3, t4, t5, t6⟩ := t'
    exact hq _ ⟨xput_same _ _ _, by rw [xput_ne (by omega)]; exact t1, by rw [xput_ne (by omega)]; exact t2, by rw [xput_ne (by omega)]; exact t3, by rw [xput_ne (by omega)]; exact t4, fun j hj => by rw [xput_ne (by omega)]; exact t5 j hj, fun q hq => by rw [xput_ne (by omega)]; exact t6 q hq⟩
  · rw [xput_ne (by omega), xput_ne (by omega), j3.2.1]
    simp
  · rw [xput_ne (by omega), xput_ne (by omega), j3.2.2.1]
    simp
  · rw [xput_ne (by omega), xput_ne (by omega)]; exact j3.2.2.2.1
  · rw [xput_ne (by omega), xput_same]
  · rw [xput_ne (by omega), xput_ne (by omega)]; exact j3.2.2.2.2 q (by omega)
end RTM
