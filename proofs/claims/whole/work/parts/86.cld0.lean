/-! a service made -/
theorem rWy_15 {s : rS} {b : Nat} : ∀ l hop x, hop + l ≤ 16 → ¬ 16 ≤ rWy s b l hop x
  | 0, _, _, _ => by rw [rWy]; decide
  | l + 1, hop, x, h => by
    rw [rWy]
    split
    · decide
    · split
      · exact nI_ge (b := 16) (show hop < 16 by omega) (by decide)
      · exact rWy_15 l (hop + 1) _ (by omega)
theorem rReach_15 (s : rS) (R Z a b : Nat) (p : Option Nat) : ¬ 16 ≤ rReach s R Z a b p := by
  unfold rReach
  split
  · split
    · decide
    · unfold rReachB
      split
      · decide
      · unfold rWay
        split
        · decide
        · exact rWy_15 15 1 _ (by omega)
  · decide
theorem rCn_pos (q : Nat → Nat) : ∀ n, rCn' q 16 0 n = 0 ↔ ∀ i, i < n → ¬ q i < 16
  | 0 => ⟨fun _ i hi => by omega, fun _ => rfl⟩
  | n + 1 => by
    rw [rCn']
    have ih := rCn_pos q n
    constructor
    · intro h i hi
      by_cases e : i = n
      · subst e
        intro z
        rw [if_pos (Or.inl z)] at h
        omega
      · exact ih.mp (by omega) i (by omega)
    · intro h
      rw [ih.mpr (fun i hi => h i (by omega)), if_neg (by rintro (z | z); exact h n (by omega) z; omega)]
theorem rMkL_e {s : rS} {R Z A c : Nat} : ∀ l i, rMkL s R Z A c l i = true ↔ ∃ j, i ≤ j ∧ j < i + l ∧ rMkC s R Z A c j = true
  | 0, i => ⟨fun h => by (cases h), fun ⟨j, h1, h2, _⟩ => by omega⟩
  | l + 1, i => by
    rw [rMkL]
    by_cases c0 : rMkC s R Z A c i = true
    · rw [if_pos c0]
      exact ⟨fun _ => ⟨i, by omega, by omega, c0⟩, fun _ => rfl⟩
    · rw [if_neg c0, rMkL_e l (i + 1)]
      constructor
      · rintro ⟨j, h1, h2, h3⟩
        exact ⟨j, by omega, by omega, h3⟩
      · rintro ⟨j, h1, h2, h3⟩
        refine ⟨j, ?_, by omega, h3⟩
        have : j ≠ i := fun z => c0 (z ▸ h3)
        omega
theorem rMk_cnt {s : rS} {R S Z A c : Nat} {y : Nat → Int32} : rMkL s R Z A c S 0 = true ↔ 0 < (rSh (rPq s R Z (A / 8) c Z none) S 16 0 (0, y)).1 := by
  rw [rSh_n _ _ 16 0 _ (by rw [rCn_0]), show 0 + 16 = 16 from rfl, rMkL_e, Nat.zero_add]
  have key : ∀ i, rMkC s R Z A c i = true ↔ rPq s R Z (A / 8) c Z none i < 16 := by
    intro i
    have r15 := rReach_15 s R Z (A / 8) (rHm s i) none
    unfold rMkC rPq rMt
    simp only [Bool.and_eq_true, decide_eq_true_eq]
    constructor
    · rintro ⟨⟨⟨h1, h2⟩, h3⟩, h4⟩
      rw [if_pos ⟨⟨h2, h3⟩, h4⟩]
      unfold rQn
      rw [if_neg (by rintro (z | z); exact h1 z; exact r15 z)]
      obtain ⟨n, hn, e⟩ := nI_of h1
      rw [e] at r15 ⊢
      rw [nI_clamp hn]
      exact Nat.not_le.mp fun z => r15 (nI_le (a := 16) z hn)
    · intro h
      split at h
      · next z =>
        refine ⟨⟨⟨?_, z.1.1⟩, z.1.2⟩, z.2⟩
        intro y
        unfold rQn at h
        rw [if_pos (Or.inl y)] at h
        omega
      · omega
  constructor
  · rintro ⟨j, _, h2, h3⟩
    by_cases z : rCn' (rPq s R Z (A / 8) c Z none) 16 0 S = 0
    · exact absurd ((key j).mp h3) ((rCn_pos _ S).mp z j (by omega))
    · omega
  · intro h
    by_cases z : ∃ j, j < S ∧ rPq s R Z (A / 8) c Z none j < 16
    · obtain ⟨j, h1, h2⟩ := z
      exact ⟨j, by omega, by omega, (key j).mpr h2⟩
    · have := (rCn_pos (rPq s R Z (A / 8) c Z none) S).mpr (fun i hi y => z ⟨i, hi, y⟩)
      omega
/-- a service at p, k of its places are made -/
def svP (M0 M : xM) (p : Nat) (net : Int32) (o ty k : Nat) : Prop := M p = some (.inl (9, [.int net, .ref o, .ref ty, .int 0, .ref (p + 1), .int 0, .ref (p + 2)])) ∧ M (p + 1) = some (.inr (0, 4, fun _ => .int 0)) ∧ M (p + 2) = some (.inr (9, 8, fun j => if j < k then .ref (p + (3 + j)) else .null)) ∧ (∀ j, j < k → M (p + (3 + j)) = some (lC zE)) ∧ ∀ q, ¬ (p ≤ q ∧ q < p + (3 + k)) → M q = M0 q
theorem cx9 : xdef 9 = [.int 0, .null, .null, .int 0, .null, .int 0, .null] := by decide +kernel
theorem cx10 : xdef 10 = [.int 0, .int 0, .int 0, .int 0, .int 0] := by decide +kernel
section SVM
variable {E : xE} {nx : Nat} {M : xM} {Q : Option Value → xM → Nat → Prop}
set_option maxRecDepth 100000 in
set_option maxHeartbeats 4000000 in
theorem ec67 {e : Nat} (hq : Q none M nx) : XC E 67 [.ref e] M nx Q := by
  refine XC.run 20 [] ?_
  simp only [n67, t67, ↓xh, ↓xst, ↓xrunE, ↓rG, rL, rSt, updA, List.elem_nil, List.elem_cons, Nat.reduceBEq, Bool.false_eq_true, if_false, if_true, true_and, and_true, true_or, or_true, not_false_eq_true, Nat.reduceAdd, Nat.reduceSub, Nat.reduceLeDiff, Nat.reduceEqDiff, Nat.reduceLT, ↓reduceIte, List.length_cons, List.length_nil, List.set_cons_zero, List.set_cons_succ, Nat.le_refl, Nat.zero_le, Nat.zero_sub, Nat.sub_zero, List.nil_append, List.cons_append, Option.toList_some, Option.toList_none, eq_self]
  exact hq
set_option maxRecDepth 100000 in
set_option maxHeartbeats 4000000 in
theorem ml60 {M0 : xM} {p o ty : Nat} {net : Int32} (hb : xb E ≤ p) (hq : ∀ M', svP M0 M' p net o ty 8 → Q none M' (p + 11)) : ∀ l k M1, k + l = 8 → svP M0 M1 p net o ty k → XZ E 60 (xZ E 60 Q) 38 [some (.ref p), some (.int net), some (.ref o), some (.ref ty), some (.int (nI k))] [] M1 (p + (3 + k)) l (5 * l) := by
  intro l
  induction l with
  | zero =>
    intro k M1 hk h
    obtain rfl : k = 8 := by omega
    refine XZ.runH 60 [38] ?_
    simp only [n60, t60, ↓xh, ↓xst, ↓xrunE, ↓rG, rL, rSt, updA, List.elem_nil, List.elem_cons, Nat.reduceBEq, Bool.false_eq_true, if_false, if_true, true_and, and_true, true_or, or_true, not_false_eq_true, Nat.reduceAdd, Nat.reduceSub, Nat.reduceLeDiff, Nat.reduceEqDiff, Nat.reduceLT, ↓reduceIte, List.length_cons, List.length_nil, List.set_cons_zero, List.set_cons_succ, Nat.le_refl, Nat.zero_le, Nat.zero_sub, Nat.sub_zero, List.nil_append, List.cons_append, Option.toList_some, Option.toList_none, eq_self, show (8 : Int32) ≤ nI 8 by decide]
    exact hq M1 h
  | succ l ih =>
    intro k M1 hk h
    obtain ⟨h0, h1, h2, h3, h4⟩ := id h
    have k8 : k < 8 := by omega
    have g : ¬ (8 : Int32) ≤ nI k := nI_ge (show k < 8 by omega) (by decide)
    have ik := nIx k8
    refine XZ.runH 60 [54] ?_
    simp only [n60, t60, ↓xh, ↓xst, ↓xrunE, ↓rG, rL, rSt, updA, List.elem_nil, List.elem_cons, Nat.reduceBEq, Bool.false_eq_true, if_false, if_true, true_and, and_true, true_or, or_true, not_false_eq_true, Nat.reduceAdd, Nat.reduceSub, Nat.reduceLeDiff, Nat.reduceEqDiff, Nat.reduceLT, ↓reduceIte, List.length_cons, List.length_nil, List.set_cons_zero, List.set_cons_succ, Nat.le_refl, Nat.zero_le, Nat.zero_sub, Nat.sub_zero, List.nil_append, List.cons_append, Option.toList_some, Option.toList_none, eq_self, g, ↓cO h0, cx10, show 1 ≤ l + 1 by omega, show 5 ≤ 5 * (l + 1) by omega, show 5 * (l + 1) - 5 = 5 * l by omega, Nat.add_sub_cancel]
    refine XZ.abs2 (P := fun M' => jN M1 M' (p + (3 + k)) (lC zE)) (jN_put M1 _ (lC zE)) (fun M3 j3 => ?_)
    have a2 : ∀ P, xarr M3 (p + 2) P = P 9 8 (fun j => if j < k then .ref (p + (3 + j)) else .null) := fun P => xhar (by rw [j3.2 _ (by omega)]; exact h2)
    have b2 : xb E ≤ p + 2 := by omega
    refine XZ.runH 60 [38] ?_
    simp only [n60, n67, t60, ↓xh, ↓xst, ↓xrunE, ↓rG, rL, rSt, updA, List.elem_nil, List.elem_cons, Nat.reduceBEq, Bool.false_eq_true, if_false, if_true, true_and, and_true, true_or, or_true, not_false_eq_true, Nat.reduceAdd, Nat.reduceSub, Nat.reduceLeDiff, Nat.reduceEqDiff, Nat.reduceLT, ↓reduceIte, List.length_cons, List.length_nil, List.set_cons_zero, List.set_cons_succ, Nat.le_refl, Nat.zero_le, Nat.zero_sub, Nat.sub_zero, List.nil_append, List.cons_append, Option.toList_some, Option.toList_none, eq_self]
    refine ec67 ?_
    refine XZ.runH 60 [38] ?_
    simp only [n60, t60, ↓xh, ↓xst, ↓xrunE, ↓rG, rL, rSt, updA, List.elem_nil, List.elem_cons, Nat.reduceBEq, Bool.false_eq_true, if_false, if_true, true_and, and_true, true_or, or_true, not_false_eq_true, Nat.reduceAdd, Nat.reduceSub, Nat.reduceLeDiff, Nat.reduceEqDiff, Nat.reduceLT, ↓reduceIte, List.length_cons, List.length_nil, List.set_cons_zero, List.set_cons_succ, Nat.le_refl, Nat.zero_le, Nat.zero_sub, Nat.sub_zero, List.nil_append, List.cons_append, Option.toList_some, Option.toList_none, eq_self, ↓a2, ik, b2, xaR, show xaci 9 = 10 by decide, ↓cO j3.1, nI_1, show p + (3 + k) + 1 = p + (3 + (k + 1)) by omega]
    refine ih (k + 1) _ (by omega) ⟨?_, ?_, ?_, fun j hj => ?_, fun q hq => ?_⟩
    · rw [xput_ne (by omega), j3.2 _ (by omega)]; exact h0
    · rw [xput_ne (by omega), j3.2 _ (by omega)]; exact h1
    · rw [xput_same]
      congr 4
      funext j
      unfold updV
      by_cases e : j = k
      · rw [if_pos e, if_pos (by omega), e]
      · rw [if_neg e]
        dsimp only
        by_cases y : j < k
        · rw [if_pos y, if_pos (by omega)]
        · rw [if_neg y, if_neg (by omega)]
    · rw [xput_ne (by omega)]
      by_cases e : j = k
      · rw [e]; exact j3.1
      · rw [j3.2 _ (by omega)]; exact h3 j (by omega)
    · rw [xput_ne (by omega), j3.2 _ (by omega)]; exact h4 q (by omega)
set_option maxRecDepth 100000 in
set_option maxHeartbeats 4000000 in
theorem mc60 {p o ty : Nat} {net : Int32} (hb : xb E ≤ p) (h : M p = some (.inl (9, [.int 0, .null, .null, .int 0, .null, .int 0, .null]))) (hq : ∀ M', svP M M' p net o ty 8 → Q none M' (p + 11)) : XC E 60 [.ref p, .int net, .ref o, .ref ty] M (p + 1) Q := by
  have oN : ∀ (M' : xM) z, ∀ d, 0 < d → (∀ P, xobj M' p 9 P = P z) → ∀ c P, xobj (xput M' (p + d) c) p 9 P = P z := by
    intro M' z d hd h' c P
    unfold xobj at h' ⊢
    rw [xput_ne (by omega)]
    exact h' P
  refine XC.run 60 [11, 20, 38] ?_
  simp only [n60, t60, ↓xh, ↓xst, ↓xrunE, ↓rG, rL, rSt, updA, List.elem_nil, List.elem_cons, Nat.reduceBEq, Bool.false_eq_true, if_false, if_true, true_and, and_true, true_or, or_true, not_false_eq_true, Nat.reduceAdd, Nat.reduceSub, Nat.reduceLeDiff, Nat.reduceEqDiff, Nat.reduceLT, ↓reduceIte, List.length_cons, List.length_nil, List.set_cons_zero, List.set_cons_succ, Nat.le_refl, Nat.zero_le, Nat.zero_sub, Nat.sub_zero, List.nil_append, List.cons_append, Option.toList_some, Option.toList_none, eq_self, show ¬ (4 : Int32) < 0 by decide, show Int32.toNatClampNeg 4 = 4 by decide, Nat.reduceLeDiff, ↓oN M _ 1 (by omega) (cO h), hb]
  refine XZ.abs2 (P := fun M' => M' p = some (.inl (9, [.int 0, .null, .null, .int 0, .ref (p + 1), .int 0, .null])) ∧ M' (p + 1) = some (.inr (0, 4, fun _ => .int 0)) ∧ ∀ q, ¬ (p ≤ q ∧ q < p + 2) → M' q = M q) ⟨xput_same _ _ _, by rw [xput_ne (by omega), xput_same], fun q hq => by rw [xput_ne (by omega), xput_ne (by omega)]⟩ (fun M1 j1 => ?_)
  refine XZ.runH 60 [11, 20, 38] ?_
  simp only [n60, t60, ↓xh, ↓xst, ↓xrunE, ↓rG, rL, rSt, updA, List.elem_nil, List.elem_cons, Nat.reduceBEq, Bool.false_eq_true, if_false, if_true, true_and, and_true, true_or, or_true, not_false_eq_true, Nat.reduceAdd, Nat.reduceSub, Nat.reduceLeDiff, Nat.reduceEqDiff, Nat.reduceLT, ↓reduceIte, List.length_cons, List.length_nil, List.set_cons_zero, List.set_cons_succ, Nat.le_refl, Nat.zero_le, Nat.zero_sub, Nat.sub_zero, List.nil_append, List.cons_append, Option.toList_some, Option.toList_none, eq_self, show ¬ (8 : Int32) < 0 by decide, show Int32.toNatClampNeg 8 = 8 by decide, Nat.reduceLeDiff, ↓oN M1 _ 2 (by omega) (cO j1.1), hb]
  refine XZ.abs2 (P := fun M' => M' p = some (.inl (9, [.int 0, .null, .null, .int 0, .ref (p + 1), .int 0, .ref (p + 2)])) ∧ M' (p + 1) = some (.inr (0, 4, fun _ => .int 0)) ∧ M' (p + 2) = some (.inr (9, 8, fun _ => .null)) ∧ ∀ q, ¬ (p ≤ q ∧ q < p + 3) → M' q = M q) ⟨xput_same _ _ _, by rw [xput_ne (by omega), xput_ne (by omega)]; exact j1.2.1, by rw [xput_ne (by omega), xput_same], fun q hq => by rw [xput_ne (by omega), xput_ne (by omega)]; exact j1.2.2 q (by omega)⟩ (fun M2 j2 => ?_)
  refine XZ.runH 60 [38] ?_
  simp only [n60, t60, ↓xh, ↓xst, ↓xrunE, ↓rG, rL, rSt, updA, List.elem_nil, List.elem_cons, Nat.reduceBEq, Bool.false_eq_true, if_false, if_true, true_and, and_true, true_or, or_true, not_false_eq_true, Nat.reduceAdd, Nat.reduceSub, Nat.reduceLeDiff, Nat.reduceEqDiff, Nat.reduceLT, ↓reduceIte, List.length_cons, List.length_nil, List.set_cons_zero, List.set_cons_succ, Nat.le_refl, Nat.zero_le, Nat.zero_sub, Nat.sub_zero, List.nil_append, List.cons_append, Option.toList_some, Option.toList_none, eq_self, ↓cO j2.1, ↓xoP, xpp, hb]
  refine ml60 (M0 := M) hb hq 8 0 _ rfl ⟨xput_same _ _ _, ?_, ?_, fun j hj => by omega, fun q hq => ?_⟩
  · rw [xput_ne (by omega)]; exact j2.2.1
  · rw [xput_ne (by omega), j2.2.2.1]
    simp
  · rw [xput_ne (by omega)]; exact j2.2.2.2 q (by omega)
end SVM
