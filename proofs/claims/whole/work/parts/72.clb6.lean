/-! open -/
def A15 (A : cA) (nx ii : Nat) : cA := uA (uA (uA A 2 3 (A 2 3 + 1)) 6 (A 2 3) nx) 10 (A 2 3) ii
theorem A15_v (A : cA) (nx ii : Nat) : A15 A nx ii 0 0 = A 0 0 ∧ A15 A nx ii 2 0 = A 2 0 ∧ A15 A nx ii 2 1 = A 2 1 ∧ A15 A nx ii 2 2 = A 2 2 ∧ A15 A nx ii 2 3 = A 2 3 + 1 ∧ (∀ c, c ≠ A 2 3 → A15 A nx ii 10 c = A 10 c) ∧ A15 A nx ii 10 (A 2 3) = ii ∧ (∀ c, c ≠ A 2 3 → A15 A nx ii 6 c = A 6 c) ∧ A15 A nx ii 6 (A 2 3) = nx ∧ ∀ g i, g ≠ 2 → g ≠ 6 → g ≠ 10 → A15 A nx ii g i = A g i := by
  unfold A15
  refine ⟨by simp [uA], by simp [uA], by simp [uA], by simp [uA], by simp [uA], fun c hc => by simp [uA, hc], by simp [uA], fun c hc => by simp [uA, hc], by simp [uA], fun g i a b c => by simp [uA, a, b, c]⟩
theorem cl_ne {A A' : cA} {kd : Nat} (h0 : A' 2 0 = A 2 0) (h1 : A' 2 1 = A 2 1) (h2 : A' 2 2 = A 2 2) (h : kd ≠ 22) : cl A' kd = cl A kd := by
  unfold cl
  split <;> first | rw [h0] | rw [h1] | rw [h2] | rfl | exact absurd rfl h
theorem gr15 {E : xE} {nx ii : Nat} {M2 : xM} {A : cA} {v : cV} {g : Nat → Int32} (h : cR E nx M2 M2 A v) (hE : xb E ≤ nx) (hX : A 2 3 < 12) (hi : ii < A 2 2) (hp : M2 nx = some (.inl (11, [.int (g 0), .int (g 1), .ref (A 5 ii), .int (g 3), .int (g 4), .int (g 5), .int (g 6), .int (g 7), .int (g 8), .int (g 9), .int (g 10), .int (g 11), .int (g 12)]))) :
    cR E (nx + 1) (xput M2 (A 0 0 + 8) (.inr (7, 12, updV (fun k => if k < A 2 3 then .ref (A 6 k) else .null) (A 2 3) (.ref nx)))) (xput M2 (A 0 0 + 8) (.inr (7, 12, updV (fun k => if k < A 2 3 then .ref (A 6 k) else .null) (A 2 3) (.ref nx)))) (A15 A nx ii) (uv v 22 (A 2 3) g) ∧ ∀ q, q < nx → ccl (A15 A nx ii) q → ccl A q := by
  obtain ⟨b0, b20, b21, b22, b23, b10, b10X, b6, b6X, bo⟩ := A15_v A nx ii
  have l8 : clv A 8 0 := ⟨rfl, by decide⟩
  have x : aEx A (A15 A nx ii) := ⟨⟨b0, bo 1 0 (by decide) (by decide) (by decide), bo 1 1 (by decide) (by decide) (by decide)⟩, fun i _ => ⟨bo 3 i (by decide) (by decide) (by decide), bo 7 i (by decide) (by decide) (by decide)⟩, fun i _ => bo 4 i (by decide) (by decide) (by decide), fun i _ => ⟨bo 5 i (by decide) (by decide) (by decide), bo 7 _ (by decide) (by decide) (by decide), bo 7 _ (by decide) (by decide) (by decide)⟩, fun i hi' => ⟨b6 i (by omega), b10 i (by omega)⟩⟩
  have newc : ∀ kd i, clv (A15 A nx ii) kd i → ¬ clv A kd i → kd = 22 ∧ i = A 2 3 := by
    intro kd i h1 h2
    rw [clv_i] at h1 h2
    by_cases e : kd = 22
    · subst e
      have h1' : i < A15 A nx ii 2 3 := h1
      have h2' : ¬ i < A 2 3 := h2
      omega
    · rw [cl_ne b20 b21 b22 e] at h1
      exact absurd h1 h2
  refine ⟨h.grow (O' := fun _ => (22, A 2 3)) x hE (by omega) (fun kd => ?_) (fun kd i h1 h2 => ?_) (fun kd i hl => ?_) (by rw [b20]; exact h.1.2.1) (by rw [b21]; exact h.1.2.2.1) (by rw [b22]; exact h.1.2.2.2.1) (by omega) (fun c hc => ?_), fun q hq hc => ?_⟩
  · by_cases e : kd = 22
    · subst e
      show A 2 3 ≤ A15 A nx ii 2 3
      omega
    · rw [cl_ne b20 b21 b22 e]
      exact Nat.le_refl _
  · obtain ⟨rfl, rfl⟩ := newc kd i h1 h2
    have ea : cad (A15 A nx ii) 22 (A 2 3) = nx := b6X
    have ne : nx ≠ A 0 0 + 8 := by have := h.1.hi l8; show nx ≠ cad A 8 0; omega
    rw [ea, xput_ne ne, hp, uv_s]
    refine ⟨?_, by omega, by omega, rfl⟩
    show _ = some (Sum.inl (11, [Value.int (g 0), .int (g 1), .ref (A15 A nx ii 5 (A15 A nx ii 10 (A 2 3))), .int (g 3), .int (g 4), .int (g 5), .int (g 6), .int (g 7), .int (g 8), .int (g 9), .int (g 10), .int (g 11), .int (g 12)]))
    rw [b10X, bo 5 ii (by decide) (by decide) (by decide)]
  · by_cases e : kd = 8 ∧ i = 0
    · obtain ⟨rfl, rfl⟩ := e
      have : xput M2 (A 0 0 + 8) (.inr (7, 12, updV (fun k => if k < A 2 3 then .ref (A 6 k) else .null) (A 2 3) (.ref nx))) (cad A 8 0) = some (.inr (7, 12, updV (fun k => if k < A 2 3 then .ref (A 6 k) else .null) (A 2 3) (.ref nx))) := xput_same _ _ _
      rw [this]
      show _ = some (Sum.inr (7, 12, fun k => if k < A15 A nx ii 2 3 then Value.ref (A15 A nx ii 6 k) else .null))
      congr 4
      funext k
      unfold updV
      rw [b23]
      by_cases z : k = A 2 3
      · rw [if_pos z, if_pos (by omega), z, b6X]
      · rw [if_neg z, b6 k z]
        dsimp only
        by_cases y : k < A 2 3
        · rw [if_pos y, if_pos (by omega)]
        · rw [if_neg y, if_neg (by omega)]
    · have ne : cad A kd i ≠ A 0 0 + 8 := fun z => e (h.1.apart hl l8 z)
      have n8 : kd ≠ 8 := fun z => e ⟨z, by subst z; exact hl.1⟩
      rw [xput_ne ne, h.2.1 kd i hl]
      have e22 : uv v 22 (A 2 3) g kd i = v kd i := uv_n (fun z => by obtain ⟨rfl, rfl⟩ := z; exact absurd hl (Nat.lt_irrefl _))
      rw [e22, x.ct h.1.2.2.2.2.2 hl (fun _ => b20) (fun _ => b21) (fun _ => b22) (fun z => absurd z n8)]
  · rw [b23] at hc
    rw [b22]
    by_cases e : c = A 2 3
    · rw [e, b10X]; exact hi
    · rw [b10 c e]
      exact h.1.2.2.2.2.2 c (by omega)
  · obtain ⟨kd, i, hl, e⟩ := hc
    by_cases z : clv A kd i
    · exact ⟨kd, i, z, by rw [← x.ad z]; exact e⟩
    · obtain ⟨rfl, rfl⟩ := newc kd i hl z
      have ea : cad (A15 A nx ii) 22 (A 2 3) = nx := b6X
      omega
theorem cx11 : xdef 11 = [.int 0, .int 0, .null, .int 0, .int 0, .int 0, .int 0, .int 0, .int 0, .int 0, .int 0, .int 0, .int 0] := by decide +kernel
theorem xaR (M : xM) (t b : Nat) : xastok M t (.ref b) = xobj M b (xaci t) (fun _ => True) := rfl
section OPN
variable {E : xE} {nx : Nat} {M : xM} {A : cA} {v : cV} {s : rS} {Q : Option Value → xM → Nat → Prop}
set_option maxRecDepth 100000 in
set_option maxHeartbeats 4000000 in
theorem mc68 {p sv : Nat} {x n : Int32} (hb : xb E ≤ p) (h : M p = some (.inl (11, [.int 0, .int 0, .null, .int 0, .int 0, .int 0, .int 0, .int 0, .int 0, .int 0, .int 0, .int 0, .int 0]))) (hq : ∀ M', jN M M' p (.inl (11, [.int x, .int n, .ref sv, .int 0, .int 0, .int (-1), .int 0, .int 0, .int 0, .int 0, .int 0, .int 0, .int 0])) → Q none M' nx) : XC E 68 [.ref p, .int x, .int n, .ref sv] M nx Q := by
  refine XC.run 60 [] ?_
  simp only [n68, t68, ↓xh, ↓xst, ↓xrunE, ↓rG, rL, rSt, updA, List.elem_nil, List.elem_cons, Nat.reduceBEq, Bool.false_eq_true, if_false, if_true, true_and, and_true, true_or, or_true, not_false_eq_true, Nat.reduceAdd, Nat.reduceSub, Nat.reduceLeDiff, Nat.reduceEqDiff, Nat.reduceLT, ↓reduceIte, List.length_cons, List.length_nil, List.set_cons_zero, List.set_cons_succ, Nat.le_refl, Nat.zero_le, Nat.zero_sub, Nat.sub_zero, List.nil_append, List.cons_append, Option.toList_some, Option.toList_none, eq_self, ↓cO h, ↓xoP, xpp, hb]
  exact hq _ (jN_put M p _)
set_option maxRecDepth 100000 in
set_option maxHeartbeats 4000000 in
theorem w15 {a i : Int32} (h : cW E nx M A v s) (hq : cP E nx M A (rOpen s (A 2 1) (A 2 2) (A 2 3) a i).2 (some (.int (rOpen s (A 2 1) (A 2 2) (A 2 3) a i).1)) Q) : XC E 15 [.ref (A 0 0), .int a, .int i] M nx Q := by
  have hS := h.1.1.2.2.2.1
  have hX := h.1.1.2.2.2.2.1
  have hN := h.1.1.2.1
  obtain ⟨r, q, d, t, n, f, hh, l, b⟩ := id h
  obtain ⟨n7, n22, n9, n34⟩ := q.2.1.2.1
  rw [rOpen] at hq
  refine XC.run 60 [84] ?_
  simp only [n15, n37, t15, ↓xh, ↓xst, ↓xrunE, ↓rG, rL, rSt, updA, List.elem_nil, List.elem_cons, Nat.reduceBEq, Bool.false_eq_true, if_false, if_true, true_and, and_true, true_or, or_true, not_false_eq_true, Nat.reduceAdd, Nat.reduceSub, Nat.reduceLeDiff, Nat.reduceEqDiff, Nat.reduceLT, ↓reduceIte, List.length_cons, List.length_nil, List.set_cons_zero, List.set_cons_succ, Nat.le_refl, Nat.zero_le, Nat.zero_sub, Nat.sub_zero, List.nil_append, List.cons_append, Option.toList_some, Option.toList_none, eq_self, ↓cFx r]
  refine mc37 r q.1 d ?_
  refine XZ.runH 60 [84] ?_
  by_cases c1 : rIsNode s a = true
  rotate_left
  · rw [if_neg c1]
    rw [if_pos (Or.inl (by simpa using c1))] at hq
    simp only [n15, t15, ↓xh, ↓xst, ↓xrunE, ↓rG, rL, rSt, updA, List.elem_nil, List.elem_cons, Nat.reduceBEq, Bool.false_eq_true, if_false, if_true, true_and, and_true, true_or, or_true, not_false_eq_true, Nat.reduceAdd, Nat.reduceSub, Nat.reduceLeDiff, Nat.reduceEqDiff, Nat.reduceLT, ↓reduceIte, List.length_cons, List.length_nil, List.set_cons_zero, List.set_cons_succ, Nat.le_refl, Nat.zero_le, Nat.zero_sub, Nat.sub_zero, List.nil_append, List.cons_append, Option.toList_some, Option.toList_none, eq_self]
    exact hq.z h
  rw [if_pos c1]
  simp only [n15, n25, t15, ↓xh, ↓xst, ↓xrunE, ↓rG, rL, rSt, updA, List.elem_nil, List.elem_cons, Nat.reduceBEq, Bool.false_eq_true, if_false, if_true, true_and, and_true, true_or, or_true, not_false_eq_true, Nat.reduceAdd, Nat.reduceSub, Nat.reduceLeDiff, Nat.reduceEqDiff, Nat.reduceLT, ↓reduceIte, List.length_cons, List.length_nil, List.set_cons_zero, List.set_cons_succ, Nat.le_refl, Nat.zero_le, Nat.zero_sub, Nat.sub_zero, List.nil_append, List.cons_append, Option.toList_some, Option.toList_none, eq_self, show ¬ (1 : Int32) = 0 by decide, ↓cFx r]
  refine mc25 r n7 ?_
  refine XZ.runH 60 [84] ?_
  by_cases c2 : i < 0 ∨ nI (A 2 2) ≤ i
  · rw [if_pos c2]
    rw [if_pos (by rcases c2 with z | z <;> simp [z])] at hq
    simp only [n15, t15, ↓xh, ↓xst, ↓xrunE, ↓rG, rL, rSt, updA, List.elem_nil, List.elem_cons, Nat.reduceBEq, Bool.false_eq_true, if_false, if_true, true_and, and_true, true_or, or_true, not_false_eq_true, Nat.reduceAdd, Nat.reduceSub, Nat.reduceLeDiff, Nat.reduceEqDiff, Nat.reduceLT, ↓reduceIte, List.length_cons, List.length_nil, List.set_cons_zero, List.set_cons_succ, Nat.le_refl, Nat.zero_le, Nat.zero_sub, Nat.sub_zero, List.nil_append, List.cons_append, Option.toList_some, Option.toList_none, eq_self]
    exact hq.z h
  rw [if_neg c2]
  obtain ⟨ii, hi, rfl⟩ := nIv (X := A 2 2) (fun z => c2 (Or.inl z)) (fun z => c2 (Or.inr z)) (by omega)
  rw [nI_clamp (show ii < 2 ^ 31 by omega)] at hq
  have ix := nIx (show ii < 16 by omega)
  have sv := q.2.2.2.1 ii hi
  by_cases c3 : s.2 17 ii = 0
  rotate_left
  · rw [if_pos (Or.inr (Or.inr (Or.inr c3)))] at hq
    simp only [n15, t15, ↓xh, ↓xst, ↓xrunE, ↓rG, rL, rSt, updA, List.elem_nil, List.elem_cons, Nat.reduceBEq, Bool.false_eq_true, if_false, if_true, true_and, and_true, true_or, or_true, not_false_eq_true, Nat.reduceAdd, Nat.reduceSub, Nat.reduceLeDiff, Nat.reduceEqDiff, Nat.reduceLT, ↓reduceIte, List.length_cons, List.length_nil, List.set_cons_zero, List.set_cons_succ, Nat.le_refl, Nat.zero_le, Nat.zero_sub, Nat.sub_zero, List.nil_append, List.cons_append, Option.toList_some, Option.toList_none, eq_self, show ¬ (1 : Int32) = 0 by decide, ↓cFx r, ix, hi, ↓cSv r hi, sv.2.2.1, c3]
    exact hq.z h
  rw [if_neg (by rintro (z | z | z | z); rw [c1] at z; exact absurd z (by decide); exact c2 (Or.inl z); exact c2 (Or.inr z); exact z c3)] at hq
  obtain ⟨aa, ha, rfl⟩ := rIsNode_v c1
  rw [nI_clamp (show aa < 2 ^ 31 by omega)] at hq
  have e8 := nI_div8 aa ha
  have hm : (s.2 16 ii).toNatClampNeg / 8 = rHm s ii := rfl
  rw [hm] at hq
  simp only [n15, n44, t15, ↓xh, ↓xst, ↓xrunE, ↓rG, rL, rSt, updA, List.elem_nil, List.elem_cons, Nat.reduceBEq, Bool.false_eq_true, if_false, if_true, true_and, and_true, true_or, or_true, not_false_eq_true, Nat.reduceAdd, Nat.reduceSub, Nat.reduceLeDiff, Nat.reduceEqDiff, Nat.reduceLT, ↓reduceIte, List.length_cons, List.length_nil, List.set_cons_zero, List.set_cons_succ, Nat.le_refl, Nat.zero_le, Nat.zero_sub, Nat.sub_zero, List.nil_append, List.cons_append, Option.toList_some, Option.toList_none, eq_self, show ¬ (1 : Int32) = 0 by decide, show ¬ (8 : Int32) = 0 by decide, ↓cFx r, ix, hi, ↓cSv r hi, sv.2.2.1, c3, e8, sv.1]
  refine mc44 r q.1 (by omega) sv.2.1 ?_
  refine XZ.runH 60 [84] ?_
  by_cases c4 : rWay s (A 2 1) (aa / 8) (rHm s ii) < 0 ∨ rWay s (A 2 1) (rHm s ii) (aa / 8) < 0
  · rw [if_pos c4] at hq ⊢
    simp only [n15, t15, ↓xh, ↓xst, ↓xrunE, ↓rG, rL, rSt, updA, List.elem_nil, List.elem_cons, Nat.reduceBEq, Bool.false_eq_true, if_false, if_true, true_and, and_true, true_or, or_true, not_false_eq_true, Nat.reduceAdd, Nat.reduceSub, Nat.reduceLeDiff, Nat.reduceEqDiff, Nat.reduceLT, ↓reduceIte, List.length_cons, List.length_nil, List.set_cons_zero, List.set_cons_succ, Nat.le_refl, Nat.zero_le, Nat.zero_sub, Nat.sub_zero, List.nil_append, List.cons_append, Option.toList_some, Option.toList_none, eq_self]
    exact hq.z h
  rw [if_neg c4] at hq ⊢
  by_cases c5 : A 2 3 < 12
  rotate_left
  · rw [if_pos c5] at hq
    have z : ¬ nI (A 2 3) < 12 := k2_nlt (nI_le (a := 12) (show 12 ≤ A 2 3 by omega) (by omega))
    simp only [n15, t15, ↓xh, ↓xst, ↓xrunE, ↓rG, rL, rSt, updA, List.elem_nil, List.elem_cons, Nat.reduceBEq, Bool.false_eq_true, if_false, if_true, true_and, and_true, true_or, or_true, not_false_eq_true, Nat.reduceAdd, Nat.reduceSub, Nat.reduceLeDiff, Nat.reduceEqDiff, Nat.reduceLT, ↓reduceIte, List.length_cons, List.length_nil, List.set_cons_zero, List.set_cons_succ, Nat.le_refl, Nat.zero_le, Nat.zero_sub, Nat.sub_zero, List.nil_append, List.cons_append, Option.toList_some, Option.toList_none, eq_self, show ¬ (1 : Int32) = 0 by decide, ↓cFx r, n9, z]
    exact hq.z h
  rw [if_neg (fun z => z c5)] at hq
  have lt12 : nI (A 2 3) < 12 := (nI_lti (b := 12) (by omega) (by decide)).mpr c5
  simp only [n15, t15, ↓xh, ↓xst, ↓xrunE, ↓rG, rL, rSt, updA, List.elem_nil, List.elem_cons, Nat.reduceBEq, Bool.false_eq_true, if_false, if_true, true_and, and_true, true_or, or_true, not_false_eq_true, Nat.reduceAdd, Nat.reduceSub, Nat.reduceLeDiff, Nat.reduceEqDiff, Nat.reduceLT, ↓reduceIte, List.length_cons, List.length_nil, List.set_cons_zero, List.set_cons_succ, Nat.le_refl, Nat.zero_le, Nat.zero_sub, Nat.sub_zero, List.nil_append, List.cons_append, Option.toList_some, Option.toList_none, eq_self, show ¬ (1 : Int32) = 0 by decide, ↓cFx r, n9, lt12, cx11]
  refine XZ.abs2 (P := fun M' => jN M M' nx (.inl (11, [.int 0, .int 0, .null, .int 0, .int 0, .int 0, .int 0, .int 0, .int 0, .int 0, .int 0, .int 0, .int 0]))) (jN_put M nx _) (fun M1 j1 => ?_)
  have r1 := r.fr (M' := M1) (fun q hq => j1.2 q (by omega))
  refine XZ.runH 60 [] ?_
  simp only [n15, n68, t15, ↓xh, ↓xst, ↓xrunE, ↓rG, rL, rSt, updA, List.elem_nil, List.elem_cons, Nat.reduceBEq, Bool.false_eq_true, if_false, if_true, true_and, and_true, true_or, or_true, not_false_eq_true, Nat.reduceAdd, Nat.reduceSub, Nat.reduceLeDiff, Nat.reduceEqDiff, Nat.reduceLT, ↓reduceIte, List.length_cons, List.length_nil, List.set_cons_zero, List.set_cons_succ, Nat.le_refl, Nat.zero_le, Nat.zero_sub, Nat.sub_zero, List.nil_append, List.cons_append, Option.toList_some, Option.toList_none, eq_self, ↓cFx r1, n9, ix, hi]
  refine mc68 (nx := nx + 1) b j1.1 (fun M2 j2 => ?_)
  have r2 := r.fr (M' := M2) (fun q hq => (j2.2 q (by omega)).trans (j1.2 q (by omega)))
  have iX := nIx (show A 2 3 < 12 by omega)
  have b8 : xb E ≤ A 0 0 + 8 := r.1.lo (kd := 8) (i := 0) ⟨rfl, by decide⟩
  obtain ⟨g1, back⟩ := gr15 (g := w [nI (A 2 3), nI (aa / 8), 0, 0, 0, -1, 0, 0, 0, 0, 0, 0, 0]) r2 b c5 hi j2.1
  refine XZ.runH 60 [100, 111] ?_
  simp only [n15, t15, ↓xh, ↓xst, ↓xrunE, ↓rG, rL, rSt, updA, List.elem_nil, List.elem_cons, Nat.reduceBEq, Bool.false_eq_true, if_false, if_true, true_and, and_true, true_or, or_true, not_false_eq_true, Nat.reduceAdd, Nat.reduceSub, Nat.reduceLeDiff, Nat.reduceEqDiff, Nat.reduceLT, ↓reduceIte, List.length_cons, List.length_nil, List.set_cons_zero, List.set_cons_succ, Nat.le_refl, Nat.zero_le, Nat.zero_sub, Nat.sub_zero, List.nil_append, List.cons_append, Option.toList_some, Option.toList_none, eq_self, ↓cFx r2, iX, xaR, show xaci 7 = 11 by decide, ↓cO j2.1, b8]
  refine XZ.abs2 (P := fun M' => cR E (nx + 1) M' M' (A15 A nx ii) (uv v 22 (A 2 3) (w [nI (A 2 3), nI (aa / 8), 0, 0, 0, -1, 0, 0, 0, 0, 0, 0, 0])) ∧ ∀ q, q < nx → ¬ ccl A q → M' q = M q) ⟨g1, fun q hq hc => ?_⟩ (fun M3 r3' => ?_)
  · have nc8 : q ≠ A 0 0 + 8 := fun z => hc ⟨8, 0, ⟨rfl, by decide⟩, z.symm⟩
    rw [xput_ne nc8, j2.2 q (by omega), j1.2 q (by omega)]
  obtain ⟨r3, f3⟩ := r3'
  obtain ⟨b0, b20, b21, b22, b23, b10, b10X, b6, b6X, bo⟩ := A15_v A nx ii
  have x3 := cFx r3
  simp only [b0, uv_k (show (0 : Nat) ≠ 22 by decide), n9] at x3
  have bb : xb E ≤ A 0 0 := r.1.lo (kd := 0) (i := 0) ⟨rfl, by decide⟩
  have r4 := r3.pw (a := A 0 0) (c := .inl (0, [.int (v 0 0 0), .int (v 0 0 1), .int (v 0 0 2), .ref (A 0 0 + 1), .ref (A 0 0 + 3), .ref (A 0 0 + 6), .ref (A 0 0 + 7), .int (v 0 0 7), .ref (A 0 0 + 8), .int (nI (A 2 3 + 1)), .ref (A 0 0 + 9), .int (v 0 0 11), .ref (A 0 0 + 10), .ref (A 0 0 + 11), .int (v 0 0 14)])) 0 0 ⟨rfl, by decide⟩ (w [v 0 0 0, v 0 0 1, v 0 0 2, 0, 0, 0, 0, v 0 0 7, 0, nI (A 2 3 + 1), 0, v 0 0 11, 0, 0, v 0 0 14]) b0.symm (by unfold cct; rw [b0]; rfl)
  have uu : ∀ j, j ≠ 26 → j ≠ 27 → up2 (up2 s.2 26 (A 2 3) (nI aa)) 27 (A 2 3) (nI ii) j = s.2 j := fun j x y => by rw [up2_n y, up2_n x]
  have nc0 : ∀ q, ¬ ccl A q → q ≠ A 0 0 := fun q hq z => hq ⟨0, 0, ⟨rfl, by decide⟩, z.symm⟩
  refine XZ.runH 60 [] ?_
  simp only [n15, t15, ↓xh, ↓xst, ↓xrunE, ↓rG, rL, rSt, updA, List.elem_nil, List.elem_cons, Nat.reduceBEq, Bool.false_eq_true, if_false, if_true, true_and, and_true, true_or, or_true, not_false_eq_true, Nat.reduceAdd, Nat.reduceSub, Nat.reduceLeDiff, Nat.reduceEqDiff, Nat.reduceLT, ↓reduceIte, List.length_cons, List.length_nil, List.set_cons_zero, List.set_cons_succ, Nat.le_refl, Nat.zero_le, Nat.zero_sub, Nat.sub_zero, List.nil_append, List.cons_append, Option.toList_some, Option.toList_none, eq_self, ↓x3, bb, nI_1]
  have kk : ∀ kd, kd ≠ 0 → kd ≠ 22 → uv (uv v 22 (A 2 3) (w [nI (A 2 3), nI (aa / 8), 0, 0, 0, -1, 0, 0, 0, 0, 0, 0, 0])) 0 0 (w [v 0 0 0, v 0 0 1, v 0 0 2, 0, 0, 0, 0, v 0 0 7, 0, nI (A 2 3 + 1), 0, v 0 0 11, 0, 0, v 0 0 14]) kd = v kd := fun kd h0 h22 => by rw [uv_k h0, uv_k h22]
  refine hq _ (A15 A nx ii) _ (nx + 1) (by omega) b0 ⟨r4.rf, ?_, ?_, ?_, ?_, ?_, ?_, ?_, by omega⟩ (fun q hq hc => ?_) back
  · exact q.opn hh rfl c5 ha hi hS b20 b21 b22 b23 (fun c hc => b10 c (by omega)) b10X kk (fun c hc => by rw [uv_k (by decide), uv_n (fun z => by omega)]) (by rw [uv_k (by decide), uv_s]) (by rw [uv_s]; exact ⟨rfl, rfl, rfl, rfl, rfl, rfl⟩)
  · have := d.sm (v' := _) (s' := (upd s.1 34 (nI (A 2 3 + 1)), up2 (up2 s.2 26 (A 2 3) (nI aa)) 27 (A 2 3) (nI ii))) (kk 13 (by decide) (by decide)) (uu 4 (by decide) (by decide))
    unfold cNd at this ⊢
    rw [b20]
    exact this
  · have := t.sm (v' := _) (s' := (upd s.1 34 (nI (A 2 3 + 1)), up2 (up2 s.2 26 (A 2 3) (nI aa)) 27 (A 2 3) (nI ii))) (kk 23 (by decide) (by decide)) (kk 24 (by decide) (by decide)) rfl (uu 1 (by decide) (by decide))
    unfold cTx at this ⊢
    rw [bo 1 1 (by decide) (by decide) (by decide)]
    exact this
  · intro t' ht'
    have nl : nlv A t' := by unfold nlv at ht' ⊢; rw [b20, b22] at ht'; exact ht'
    refine n.gr (M' := _) (A' := A15 A nx ii) (nx' := nx + 1) (s' := (upd s.1 34 (nI (A 2 3 + 1)), up2 (up2 s.2 26 (A 2 3) (nI aa)) 27 (A 2 3) (nI ii))) (by omega) (fun q hq hc => ?_) back (fun t _ => ⟨bo 7 t (by decide) (by decide) (by decide), bo 8 t (by decide) (by decide) (by decide)⟩) (fun t _ k _ => ?_) (fun t _ => ?_) (fun t ht => ?_) t' nl
    · rw [xput_ne (nc0 q hc)]
      exact f3 q hq hc
    · exact congrFun (uu 2 (by decide) (by decide)) _
    · exact congrFun (uu 3 (by decide) (by decide)) _
    · refine (l.1 t ?_).1
      unfold nlv at ht
      omega
  · obtain ⟨f1, f2, F, hF, eF'⟩ := f
    refine ⟨?_, ?_, F, hF, ?_⟩
    · rw [uv_s]
      exact f1
    · rw [kk 1 (by decide) (by decide)]
      exact f2.trans (uu 25 (by decide) (by decide)).symm
    · exact eF'
  · exact hh.opn rfl ha b20 b22 b23 (fun c hc => b10 c (by omega)) b10X
  · exact l.sm (uu 1 (by decide) (by decide)) (uu 2 (by decide) (by decide)) (uu 3 (by decide) (by decide))
  · rw [xput_ne (nc0 q hc)]
    exact f3 q hq hc
end OPN
