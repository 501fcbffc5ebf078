theorem m1_lt : ∀ c, c < 33 → (-1 : Int32) < nI c := by decide +kernel
theorem ne_s2 : ∀ t Z, t < 33 → Z < 33 → ¬ t + 2 = Z → ¬ nI t = nI Z - 2 := by
  have : ∀ t, t < 33 → ∀ Z, Z < 33 → ¬ t + 2 = Z → ¬ nI t = nI Z - 2 := by decide +kernel
  exact fun t Z h1 h2 => this t h1 Z h2
set_option maxRecDepth 100000 in
set_option maxHeartbeats 4000000 in
theorem rlh105 {E : xE} {M0 : xM} {m nx R S Z a c t : Nat} {star : Bool} {s : rS} {Q : Option Value → xM → Nat → Prop} (hb : xb E ≤ m) (hl : rLt s) (hR : R ≤ 6) (h9 : s.1 9 = nI R) (hnx : ∀ k, k < 48 → rRt (s.2 8 k)) (hS : S ≤ 16) (h22 : s.1 22 = nI S) (hZ : Z ≤ 32) (h4 : s.1 4 = nI Z) (ha : a < 8) (hh : ∀ i, i < S → ∃ B, B < 64 ∧ s.2 16 i = nI B) (hc0 : 0 < c) (hct : c + 1 < t) (htZ : t < Z) (x' : Nat × (Nat → Int32))
    (hq : ∀ M', rR M0 M' m (rSt' s x') → Q (some (.int (nI x'.1))) M' nx) :
    ∀ l hp x M l6 l7, hp + l = 16 → x.1 = rCn' (rPq s R Z a c t (if star then none else some (t + 1))) hp 0 S → rSh (rPq s R Z a c t (if star then none else some (t + 1))) S l hp x = x' → rR M0 M m (rSt' s x) →
    XZ E 105 (xZ E 105 Q) 110 [some (.ref m), some (.int (nI a)), some (.int (nI c)), some (.int (nI t)), some (.int (if star then 1 else 0)), some (.int (nI hp)), l6, l7] [] M nx 0 0 := by
  intro l
  induction l with
  | zero =>
    intro hp x M l6 l7 hi hx he h
    obtain rfl : hp = 16 := by omega
    have e33 : (rSt' s x).1 33 = nI x.1 := rfl
    refine XZ.runH 60 [110] ?_
    simp only [n105, t105, ↓xh, ↓xst, ↓xrunE, ↓rG, rL, rSt, updA, List.elem_nil, List.elem_cons, Nat.reduceBEq, Bool.false_eq_true, if_false, if_true, true_and, and_true, true_or, or_true, not_false_eq_true, Nat.reduceAdd, Nat.reduceSub, Nat.reduceLeDiff, Nat.reduceEqDiff, Nat.reduceLT, ↓reduceIte, List.length_cons, List.length_nil, List.set_cons_zero, List.set_cons_succ, Nat.le_refl, Nat.zero_le, Nat.zero_sub, Nat.sub_zero, List.nil_append, List.cons_append, Option.toList_some, Option.toList_none, eq_self, show (16 : Int32) ≤ nI 16 by decide, ↓rO1 h.1, e33]
    obtain rfl : x = x' := he
    exact hq M h
  | succ l ih =>
    intro hp x M l6 l7 hi hx he h
    have g : ¬ (16 : Int32) ≤ nI hp := nI_ge (show hp < 16 by omega) (by decide)
    rw [rSh] at he
    refine XZ.runH 60 [110, 120] ?_
    simp only [n105, t105, ↓xh, ↓xst, ↓xrunE, ↓rG, rL, rSt, updA, List.elem_nil, List.elem_cons, Nat.reduceBEq, Bool.false_eq_true, if_false, if_true, true_and, and_true, true_or, or_true, not_false_eq_true, Nat.reduceAdd, Nat.reduceSub, Nat.reduceLeDiff, Nat.reduceEqDiff, Nat.reduceLT, ↓reduceIte, List.length_cons, List.length_nil, List.set_cons_zero, List.set_cons_succ, Nat.le_refl, Nat.zero_le, Nat.zero_sub, Nat.sub_zero, List.nil_append, List.cons_append, Option.toList_some, Option.toList_none, eq_self, g]
    refine rli105 hb hl hR h9 hnx hS h22 hZ h4 ha hh hc0 hct htZ (by omega) _ (fun M1 l7 h1 => ?_) S 0 x M _ (by omega) hx rfl h
    refine XZ.runH 60 [110] ?_
    simp only [n105, t105, ↓xh, ↓xst, ↓xrunE, ↓rG, rL, rSt, updA, List.elem_nil, List.elem_cons, Nat.reduceBEq, Bool.false_eq_true, if_false, if_true, true_and, and_true, true_or, or_true, not_false_eq_true, Nat.reduceAdd, Nat.reduceSub, Nat.reduceLeDiff, Nat.reduceEqDiff, Nat.reduceLT, ↓reduceIte, List.length_cons, List.length_nil, List.set_cons_zero, List.set_cons_succ, Nat.le_refl, Nat.zero_le, Nat.zero_sub, Nat.sub_zero, List.nil_append, List.cons_append, Option.toList_some, Option.toList_none, eq_self, nI_1]
    refine ih (hp + 1) _ M1 _ _ (by omega) ?_ he h1
    rw [rSi_n _ _ S S 0 x (by omega) hx, rCn_h _ _ S S (Nat.le_refl S)]
theorem rSt_0 (s : rS) : (upd s.1 33 0, s.2) = rSt' s (0, s.2 25) := by
  refine Prod.ext rfl ?_
  funext j k
  by_cases z : j = 25
  · subst z; simp [rSt']
  · simp [rSt', z]
set_option maxRecDepth 100000 in
set_option maxHeartbeats 4000000 in
theorem rm105 {E : xE} {M0 M : xM} {m nx R S Z a c t : Nat} {star : Bool} {l5 l6 l7 : Option Value} {s : rS} {Q : Option Value → xM → Nat → Prop} (hb : xb E ≤ m) (h : rR M0 M m s) (hl : rLt s) (hR : R ≤ 6) (h9 : s.1 9 = nI R) (hnx : ∀ k, k < 48 → rRt (s.2 8 k)) (hS : S ≤ 16) (h22 : s.1 22 = nI S) (hZ : Z ≤ 32) (h4 : s.1 4 = nI Z) (ha : a < 8) (hh : ∀ i, i < S → ∃ B, B < 64 ∧ s.2 16 i = nI B) (htZ : t < Z) (hcZ : c < Z)
    (hq : ∀ M', rR M0 M' m (if ¬ t < c ∧ rMask s 0 c = true ∧ rMask s (c + 1) t = true ∧ (star = true ∨ rNm s (t + 1) Z = true) then
      (nI (rSh (rPq s R Z a c t (if star then none else some (t + 1))) S 16 0 (0, s.2 25)).1, rSt' s (rSh (rPq s R Z a c t (if star then none else some (t + 1))) S 16 0 (0, s.2 25)))
    else (-2, s)).2 → Q (some (.int (if ¬ t < c ∧ rMask s 0 c = true ∧ rMask s (c + 1) t = true ∧ (star = true ∨ rNm s (t + 1) Z = true) then
      (nI (rSh (rPq s R Z a c t (if star then none else some (t + 1))) S 16 0 (0, s.2 25)).1, rSt' s (rSh (rPq s R Z a c t (if star then none else some (t + 1))) S 16 0 (0, s.2 25)))
    else (-2, s)).1)) M' nx) :
    XZ E 105 (xZ E 105 Q) 51 [some (.ref m), some (.int (nI a)), some (.int (nI c)), some (.int (nI t)), some (.int (if star then 1 else 0)), l5, l6, l7] [] M nx 0 0 := by
  have pc := lF (nI_pos (show c < 2 ^ 31 by omega))
  refine XZ.runH 60 [102] ?_
  by_cases c1 : t < c
  · rw [if_neg (fun z => z.1 c1)] at hq
    have g : nI t < nI c := k2_lt (nI_ge c1 (by omega))
    simp only [n105, t105, ↓xh, ↓xst, ↓xrunE, ↓rG, rL, rSt, updA, List.elem_nil, List.elem_cons, Nat.reduceBEq, Bool.false_eq_true, if_false, if_true, true_and, and_true, true_or, or_true, not_false_eq_true, Nat.reduceAdd, Nat.reduceSub, Nat.reduceLeDiff, Nat.reduceEqDiff, Nat.reduceLT, ↓reduceIte, List.length_cons, List.length_nil, List.set_cons_zero, List.set_cons_succ, Nat.le_refl, Nat.zero_le, Nat.zero_sub, Nat.sub_zero, List.nil_append, List.cons_append, Option.toList_some, Option.toList_none, eq_self, pc, lT g]
    exact hq M h
  have g1 : ¬ nI t < nI c := k2_nlt (nI_le (show c ≤ t by omega) (by omega))
  simp only [n105, n120, t105, ↓xh, ↓xst, ↓xrunE, ↓rG, rL, rSt, updA, List.elem_nil, List.elem_cons, Nat.reduceBEq, Bool.false_eq_true, if_false, if_true, true_and, and_true, true_or, or_true, not_false_eq_true, Nat.reduceAdd, Nat.reduceSub, Nat.reduceLeDiff, Nat.reduceEqDiff, Nat.reduceLT, ↓reduceIte, List.length_cons, List.length_nil, List.set_cons_zero, List.set_cons_succ, Nat.le_refl, Nat.zero_le, Nat.zero_sub, Nat.sub_zero, List.nil_append, List.cons_append, Option.toList_some, Option.toList_none, eq_self, pc, lF g1, ↓rO1 h.1]
  refine rc120 (a := 0) h.1 (by omega) (by omega) ?_
  refine XZ.runH 60 [102] ?_
  by_cases c2 : rMask s 0 c = true
  rotate_left
  · rw [if_neg (fun z => c2 z.2.1)] at hq
    simp only [n105, t105, ↓xh, ↓xst, ↓xrunE, ↓rG, rL, rSt, updA, List.elem_nil, List.elem_cons, Nat.reduceBEq, Bool.false_eq_true, if_false, if_true, true_and, and_true, true_or, or_true, not_false_eq_true, Nat.reduceAdd, Nat.reduceSub, Nat.reduceLeDiff, Nat.reduceEqDiff, Nat.reduceLT, ↓reduceIte, List.length_cons, List.length_nil, List.set_cons_zero, List.set_cons_succ, Nat.le_refl, Nat.zero_le, Nat.zero_sub, Nat.sub_zero, List.nil_append, List.cons_append, Option.toList_some, Option.toList_none, eq_self, c2]
    exact hq M h
  simp only [n105, n120, t105, ↓xh, ↓xst, ↓xrunE, ↓rG, rL, rSt, updA, List.elem_nil, List.elem_cons, Nat.reduceBEq, Bool.false_eq_true, if_false, if_true, true_and, and_true, true_or, or_true, not_false_eq_true, Nat.reduceAdd, Nat.reduceSub, Nat.reduceLeDiff, Nat.reduceEqDiff, Nat.reduceLT, ↓reduceIte, List.length_cons, List.length_nil, List.set_cons_zero, List.set_cons_succ, Nat.le_refl, Nat.zero_le, Nat.zero_sub, Nat.sub_zero, List.nil_append, List.cons_append, Option.toList_some, Option.toList_none, eq_self, c2, show ¬ (1 : Int32) = 0 by decide, ↓rO1 h.1, nI_1]
  refine rc120 h.1 (by omega) (by omega) ?_
  refine XZ.runH 60 [102] ?_
  by_cases c3 : rMask s (c + 1) t = true
  rotate_left
  · rw [if_neg (fun z => c3 z.2.2.1)] at hq
    simp only [n105, t105, ↓xh, ↓xst, ↓xrunE, ↓rG, rL, rSt, updA, List.elem_nil, List.elem_cons, Nat.reduceBEq, Bool.false_eq_true, if_false, if_true, true_and, and_true, true_or, or_true, not_false_eq_true, Nat.reduceAdd, Nat.reduceSub, Nat.reduceLeDiff, Nat.reduceEqDiff, Nat.reduceLT, ↓reduceIte, List.length_cons, List.length_nil, List.set_cons_zero, List.set_cons_succ, Nat.le_refl, Nat.zero_le, Nat.zero_sub, Nat.sub_zero, List.nil_append, List.cons_append, Option.toList_some, Option.toList_none, eq_self, c3]
    exact hq M h
  have l1 := rMask_lt c2
  have l2 := rMask_lt c3
  have go : star = true ∨ rNm s (t + 1) Z = true → XZ E 105 (xZ E 105 Q) 102 [some (.ref m), some (.int (nI a)), some (.int (nI c)), some (.int (nI t)), some (.int (if star then 1 else 0)), l5, l6, l7] [] M nx 0 0 := by
    intro z
    rw [if_pos ⟨c1, c2, c3, z⟩] at hq
    refine XZ.runH 60 [107, 110, 224, 234] ?_
    simp only [n105, t105, ↓xh, ↓xst, ↓xrunE, ↓rG, rL, rSt, updA, List.elem_nil, List.elem_cons, Nat.reduceBEq, Bool.false_eq_true, if_false, if_true, true_and, and_true, true_or, or_true, not_false_eq_true, Nat.reduceAdd, Nat.reduceSub, Nat.reduceLeDiff, Nat.reduceEqDiff, Nat.reduceLT, ↓reduceIte, List.length_cons, List.length_nil, List.set_cons_zero, List.set_cons_succ, Nat.le_refl, Nat.zero_le, Nat.zero_sub, Nat.sub_zero, List.nil_append, List.cons_append, Option.toList_some, Option.toList_none, eq_self, ↓rO1 h.1, hb]
    refine XZ.abs h.fl (fun M1 h1 => ?_)
    refine XZ.runH 60 [110] ?_
    simp only [n105, t105, ↓xh, ↓xst, ↓xrunE, ↓rG, rL, rSt, updA, List.elem_nil, List.elem_cons, Nat.reduceBEq, Bool.false_eq_true, if_false, if_true, true_and, and_true, true_or, or_true, not_false_eq_true, Nat.reduceAdd, Nat.reduceSub, Nat.reduceLeDiff, Nat.reduceEqDiff, Nat.reduceLT, ↓reduceIte, List.length_cons, List.length_nil, List.set_cons_zero, List.set_cons_succ, Nat.le_refl, Nat.zero_le, Nat.zero_sub, Nat.sub_zero, List.nil_append, List.cons_append, Option.toList_some, Option.toList_none, eq_self]
    exact rlh105 hb hl hR h9 hnx hS h22 hZ h4 ha hh l1 l2 htZ _ hq 16 0 (0, s.2 25) M1 _ _ (by omega) (rCn_0 _ S).symm rfl (h1.to (rSt_0 s))
  cases star with
  | true =>
    simp only [n105, t105, ↓xh, ↓xst, ↓xrunE, ↓rG, rL, rSt, updA, List.elem_nil, List.elem_cons, Nat.reduceBEq, Bool.false_eq_true, if_false, if_true, true_and, and_true, true_or, or_true, not_false_eq_true, Nat.reduceAdd, Nat.reduceSub, Nat.reduceLeDiff, Nat.reduceEqDiff, Nat.reduceLT, ↓reduceIte, List.length_cons, List.length_nil, List.set_cons_zero, List.set_cons_succ, Nat.le_refl, Nat.zero_le, Nat.zero_sub, Nat.sub_zero, List.nil_append, List.cons_append, Option.toList_some, Option.toList_none, eq_self, c3, show ¬ (1 : Int32) = 0 by decide]
    exact go (Or.inl rfl)
  | false =>
    simp only [n105, n100, t105, ↓xh, ↓xst, ↓xrunE, ↓rG, rL, rSt, updA, List.elem_nil, List.elem_cons, Nat.reduceBEq, Bool.false_eq_true, if_false, if_true, true_and, and_true, true_or, or_true, not_false_eq_true, Nat.reduceAdd, Nat.reduceSub, Nat.reduceLeDiff, Nat.reduceEqDiff, Nat.reduceLT, ↓reduceIte, List.length_cons, List.length_nil, List.set_cons_zero, List.set_cons_succ, Nat.le_refl, Nat.zero_le, Nat.zero_sub, Nat.sub_zero, List.nil_append, List.cons_append, Option.toList_some, Option.toList_none, eq_self, c3, show ¬ (1 : Int32) = 0 by decide, ↓rO1 h.1, h4, nI_1]
    refine rc100 h.1 hZ (by omega) ?_
    refine XZ.runH 60 [102] ?_
    by_cases c5 : rNm s (t + 1) Z = true
    · simp only [n105, t105, ↓xh, ↓xst, ↓xrunE, ↓rG, rL, rSt, updA, List.elem_nil, List.elem_cons, Nat.reduceBEq, Bool.false_eq_true, if_false, if_true, true_and, and_true, true_or, or_true, not_false_eq_true, Nat.reduceAdd, Nat.reduceSub, Nat.reduceLeDiff, Nat.reduceEqDiff, Nat.reduceLT, ↓reduceIte, List.length_cons, List.length_nil, List.set_cons_zero, List.set_cons_succ, Nat.le_refl, Nat.zero_le, Nat.zero_sub, Nat.sub_zero, List.nil_append, List.cons_append, Option.toList_some, Option.toList_none, eq_self, c5, show ¬ (1 : Int32) = 0 by decide]
      exact go (Or.inr c5)
    · rw [if_neg (fun z => z.2.2.2.elim (fun y => by cases y) c5)] at hq
      simp only [n105, t105, ↓xh, ↓xst, ↓xrunE, ↓rG, rL, rSt, updA, List.elem_nil, List.elem_cons, Nat.reduceBEq, Bool.false_eq_true, if_false, if_true, true_and, and_true, true_or, or_true, not_false_eq_true, Nat.reduceAdd, Nat.reduceSub, Nat.reduceLeDiff, Nat.reduceEqDiff, Nat.reduceLT, ↓reduceIte, List.length_cons, List.length_nil, List.set_cons_zero, List.set_cons_succ, Nat.le_refl, Nat.zero_le, Nat.zero_sub, Nat.sub_zero, List.nil_append, List.cons_append, Option.toList_some, Option.toList_none, eq_self, c5]
      exact hq M h
set_option maxRecDepth 100000 in
set_option maxHeartbeats 4000000 in
theorem rc105 {E : xE} {M0 M : xM} {m nx R S Z a : Nat} {s : rS} {Q : Option Value → xM → Nat → Prop} (hb : xb E ≤ m) (h : rR M0 M m s) (hl : rLt s) (hR : R ≤ 6) (h9 : s.1 9 = nI R) (hnx : ∀ k, k < 48 → rRt (s.2 8 k)) (hS : S ≤ 16) (h22 : s.1 22 = nI S) (hZ : Z ≤ 32) (h4 : s.1 4 = nI Z) (ha : a < 8) (hh : ∀ i, i < S → ∃ B, B < 64 ∧ s.2 16 i = nI B)
    (hq : ∀ M', rR M0 M' m (rSearch s R S Z a).2 → Q (some (.int (rSearch s R S Z a).1)) M' nx) : XC E 105 [.ref m, .int (nI a)] M nx Q := by
  refine XC.run 60 [] ?_
  simp only [n105, n117, t105, ↓xh, ↓xst, ↓xrunE, ↓rG, rL, rSt, updA, List.elem_nil, List.elem_cons, Nat.reduceBEq, Bool.false_eq_true, if_false, if_true, true_and, and_true, true_or, or_true, not_false_eq_true, Nat.reduceAdd, Nat.reduceSub, Nat.reduceLeDiff, Nat.reduceEqDiff, Nat.reduceLT, ↓reduceIte, List.length_cons, List.length_nil, List.set_cons_zero, List.set_cons_succ, Nat.le_refl, Nat.zero_le, Nat.zero_sub, Nat.sub_zero, List.nil_append, List.cons_append, Option.toList_some, Option.toList_none, eq_self, ↓rO1 h.1]
  refine rc117 (Z := Z) h.1 hZ h4 ?_
  refine XZ.runH 60 [] ?_
  simp only [n105, n117, t105, ↓xh, ↓xst, ↓xrunE, ↓rG, rL, rSt, updA, List.elem_nil, List.elem_cons, Nat.reduceBEq, Bool.false_eq_true, if_false, if_true, true_and, and_true, true_or, or_true, not_false_eq_true, Nat.reduceAdd, Nat.reduceSub, Nat.reduceLeDiff, Nat.reduceEqDiff, Nat.reduceLT, ↓reduceIte, List.length_cons, List.length_nil, List.set_cons_zero, List.set_cons_succ, Nat.le_refl, Nat.zero_le, Nat.zero_sub, Nat.sub_zero, List.nil_append, List.cons_append, Option.toList_some, Option.toList_none, eq_self, ↓rO1 h.1]
  refine rc117 (Z := Z) h.1 hZ h4 ?_
  rw [rSearch] at hq
  refine XZ.runH 60 [51] ?_
  cases ht : rPl s 64 Z 0 with
  | none =>
    have hq' : Q (some (.int (-2))) M nx := by
      rw [ht] at hq
      cases hc : rPl s 58 Z 0 with
      | none => rw [hc] at hq; exact hq M h
      | some c => rw [hc] at hq; exact hq M h
    simp only [n105, t105, ↓xh, ↓xst, ↓xrunE, ↓rG, rL, rSt, updA, List.elem_nil, List.elem_cons, Nat.reduceBEq, Bool.false_eq_true, if_false, if_true, true_and, and_true, true_or, or_true, not_false_eq_true, Nat.reduceAdd, Nat.reduceSub, Nat.reduceLeDiff, Nat.reduceEqDiff, Nat.reduceLT, ↓reduceIte, List.length_cons, List.length_nil, List.set_cons_zero, List.set_cons_succ, Nat.le_refl, Nat.zero_le, Nat.zero_sub, Nat.sub_zero, List.nil_append, List.cons_append, Option.toList_some, Option.toList_none, eq_self, Option.elim, show (-1 : Int32) < 0 by decide]
    refine XZ.runH 60 [] ?_
    cases hc : rPl s 58 Z 0 with
    | none =>
      simp only [n105, t105, ↓xh, ↓xst, ↓xrunE, ↓rG, rL, rSt, updA, List.elem_nil, List.elem_cons, Nat.reduceBEq, Bool.false_eq_true, if_false, if_true, true_and, and_true, true_or, or_true, not_false_eq_true, Nat.reduceAdd, Nat.reduceSub, Nat.reduceLeDiff, Nat.reduceEqDiff, Nat.reduceLT, ↓reduceIte, List.length_cons, List.length_nil, List.set_cons_zero, List.set_cons_succ, Nat.le_refl, Nat.zero_le, Nat.zero_sub, Nat.sub_zero, List.nil_append, List.cons_append, Option.toList_some, Option.toList_none, eq_self, show (-1 : Int32) < 0 by decide]
      exact hq'
    | some c =>
      have lc := rPl_lt _ _ _ _ _ hc
      have g : (-1 : Int32) < nI c := m1_lt c (by omega)
      simp only [n105, t105, ↓xh, ↓xst, ↓xrunE, ↓rG, rL, rSt, updA, List.elem_nil, List.elem_cons, Nat.reduceBEq, Bool.false_eq_true, if_false, if_true, true_and, and_true, true_or, or_true, not_false_eq_true, Nat.reduceAdd, Nat.reduceSub, Nat.reduceLeDiff, Nat.reduceEqDiff, Nat.reduceLT, ↓reduceIte, List.length_cons, List.length_nil, List.set_cons_zero, List.set_cons_succ, Nat.le_refl, Nat.zero_le, Nat.zero_sub, Nat.sub_zero, List.nil_append, List.cons_append, Option.toList_some, Option.toList_none, eq_self, lF (nI_pos (show c < 2 ^ 31 by omega)), lT g]
      exact hq'
  | some t =>
    rw [ht] at hq
    have lt := rPl_lt _ _ _ _ _ ht
    have p0 := lF (nI_pos (show t < 2 ^ 31 by omega))
    cases hc : rPl s 58 Z 0 with
    | none =>
      rw [hc] at hq
      have fin : ∀ x l5 l6 l7, XZ E 105 (xZ E 105 Q) 51 [some (.ref m), some (.int (nI a)), some (.int (-1)), some (.int (nI t)), some (.int x), l5, l6, l7] [] M nx 0 0 := by
        intro x l5 l6 l7
        refine XZ.runH 60 [] ?_
        simp only [n105, t105, ↓xh, ↓xst, ↓xrunE, ↓rG, rL, rSt, updA, List.elem_nil, List.elem_cons, Nat.reduceBEq, Bool.false_eq_true, if_false, if_true, true_and, and_true, true_or, or_true, not_false_eq_true, Nat.reduceAdd, Nat.reduceSub, Nat.reduceLeDiff, Nat.reduceEqDiff, Nat.reduceLT, ↓reduceIte, List.length_cons, List.length_nil, List.set_cons_zero, List.set_cons_succ, Nat.le_refl, Nat.zero_le, Nat.zero_sub, Nat.sub_zero, List.nil_append, List.cons_append, Option.toList_some, Option.toList_none, eq_self, show (-1 : Int32) < 0 by decide]
        exact hq M h
      by_cases c1 : t + 2 = Z
      · subst c1
        by_cases c2 : s.2 1 (t + 1) = 42
        · simp only [n105, t105, ↓xh, ↓xst, ↓xrunE, ↓rG, rL, rSt, updA, List.elem_nil, List.elem_cons, Nat.reduceBEq, Bool.false_eq_true, if_false, if_true, true_and, and_true, true_or, or_true, not_false_eq_true, Nat.reduceAdd, Nat.reduceSub, Nat.reduceLeDiff, Nat.reduceEqDiff, Nat.reduceLT, ↓reduceIte, List.length_cons, List.length_nil, List.set_cons_zero, List.set_cons_succ, Nat.le_refl, Nat.zero_le, Nat.zero_sub, Nat.sub_zero, List.nil_append, List.cons_append, Option.toList_some, Option.toList_none, eq_self, Option.elim, p0, ↓rO1 h.1, ↓rB h.1, h4, show nI (t + 2) - 2 = nI t from nI_subr t 2, show nI (t + 2) - 1 = nI (t + 1) from nI_subr (t + 1) 1, nIx (show t + 1 < 32 by omega), c2]
          exact fin _ _ _ _
        · simp only [n105, t105, ↓xh, ↓xst, ↓xrunE, ↓rG, rL, rSt, updA, List.elem_nil, List.elem_cons, Nat.reduceBEq, Bool.false_eq_true, if_false, if_true, true_and, and_true, true_or, or_true, not_false_eq_true, Nat.reduceAdd, Nat.reduceSub, Nat.reduceLeDiff, Nat.reduceEqDiff, Nat.reduceLT, ↓reduceIte, List.length_cons, List.length_nil, List.set_cons_zero, List.set_cons_succ, Nat.le_refl, Nat.zero_le, Nat.zero_sub, Nat.sub_zero, List.nil_append, List.cons_append, Option.toList_some, Option.toList_none, eq_self, Option.elim, p0, ↓rO1 h.1, ↓rB h.1, h4, show nI (t + 2) - 2 = nI t from nI_subr t 2, show nI (t + 2) - 1 = nI (t + 1) from nI_subr (t + 1) 1, nIx (show t + 1 < 32 by omega), c2]
          exact fin _ _ _ _
      · have n1 : ¬ nI t = nI Z - 2 := ne_s2 t Z (by omega) (by omega) c1
        simp only [n105, t105, ↓xh, ↓xst, ↓xrunE, ↓rG, rL, rSt, updA, List.elem_nil, List.elem_cons, Nat.reduceBEq, Bool.false_eq_true, if_false, if_true, true_and, and_true, true_or, or_true, not_false_eq_true, Nat.reduceAdd, Nat.reduceSub, Nat.reduceLeDiff, Nat.reduceEqDiff, Nat.reduceLT, ↓reduceIte, List.length_cons, List.length_nil, List.set_cons_zero, List.set_cons_succ, Nat.le_refl, Nat.zero_le, Nat.zero_sub, Nat.sub_zero, List.nil_append, List.cons_append, Option.toList_some, Option.toList_none, eq_self, Option.elim, p0, ↓rO1 h.1, h4, n1]
        exact fin _ _ _ _
    | some c =>
      rw [hc] at hq
      dsimp only at hq
      have lc := rPl_lt _ _ _ _ _ hc
      by_cases c1 : t + 2 = Z
      · subst c1
        by_cases c2 : s.2 1 (t + 1) = 42
        · simp only [n105, t105, ↓xh, ↓xst, ↓xrunE, ↓rG, rL, rSt, updA, List.elem_nil, List.elem_cons, Nat.reduceBEq, Bool.false_eq_true, if_false, if_true, true_and, and_true, true_or, or_true, not_false_eq_true, Nat.reduceAdd, Nat.reduceSub, Nat.reduceLeDiff, Nat.reduceEqDiff, Nat.reduceLT, ↓reduceIte, List.length_cons, List.length_nil, List.set_cons_zero, List.set_cons_succ, Nat.le_refl, Nat.zero_le, Nat.zero_sub, Nat.sub_zero, List.nil_append, List.cons_append, Option.toList_some, Option.toList_none, eq_self, Option.elim, p0, ↓rO1 h.1, ↓rB h.1, h4, show nI (t + 2) - 2 = nI t from nI_subr t 2, show nI (t + 2) - 1 = nI (t + 1) from nI_subr (t + 1) 1, nIx (show t + 1 < 32 by omega), c2]
          have es : rStar s (t + 2) t = true := by simp [rStar, c2]
          rw [es] at hq
          exact rm105 (star := true) hb h hl hR h9 hnx hS h22 hZ h4 ha hh (by omega) (by omega) hq
        · simp only [n105, t105, ↓xh, ↓xst, ↓xrunE, ↓rG, rL, rSt, updA, List.elem_nil, List.elem_cons, Nat.reduceBEq, Bool.false_eq_true, if_false, if_true, true_and, and_true, true_or, or_true, not_false_eq_true, Nat.reduceAdd, Nat.reduceSub, Nat.reduceLeDiff, Nat.reduceEqDiff, Nat.reduceLT, ↓reduceIte, List.length_cons, List.length_nil, List.set_cons_zero, List.set_cons_succ, Nat.le_refl, Nat.zero_le, Nat.zero_sub, Nat.sub_zero, List.nil_append, List.cons_append, Option.toList_some, Option.toList_none, eq_self, Option.elim, p0, ↓rO1 h.1, ↓rB h.1, h4, show nI (t + 2) - 2 = nI t from nI_subr t 2, show nI (t + 2) - 1 = nI (t + 1) from nI_subr (t + 1) 1, nIx (show t + 1 < 32 by omega), c2]
          have es : rStar s (t + 2) t = false := by simp [rStar, c2]
          rw [es] at hq
          exact rm105 (star := false) hb h hl hR h9 hnx hS h22 hZ h4 ha hh (by omega) (by omega) hq
      · have n1 : ¬ nI t = nI Z - 2 := ne_s2 t Z (by omega) (by omega) c1
        simp only [n105, t105, ↓xh, ↓xst, ↓xrunE, ↓rG, rL, rSt, updA, List.elem_nil, List.elem_cons, Nat.reduceBEq, Bool.false_eq_true, if_false, if_true, true_and, and_true, true_or, or_true, not_false_eq_true, Nat.reduceAdd, Nat.reduceSub, Nat.reduceLeDiff, Nat.reduceEqDiff, Nat.reduceLT, ↓reduceIte, List.length_cons, List.length_nil, List.set_cons_zero, List.set_cons_succ, Nat.le_refl, Nat.zero_le, Nat.zero_sub, Nat.sub_zero, List.nil_append, List.cons_append, Option.toList_some, Option.toList_none, eq_self, Option.elim, p0, ↓rO1 h.1, h4, n1]
        have es : rStar s Z t = false := by simp [rStar, c1]
        rw [es] at hq
        exact rm105 (star := false) hb h hl hR h9 hnx hS h22 hZ h4 ha hh (by omega) (by omega) hq
def rLook (s : rS) (R S Z : Nat) (x : Int32) : Int32 × rS := if rIsNode s x then ((rSearch s R S Z (x.toNatClampNeg / 8)).1, (upd (rSearch s R S Z (x.toNatClampNeg / 8)).2.1 4 0, (rSearch s R S Z (x.toNatClampNeg / 8)).2.2)) else (-1, (upd s.1 4 0, s.2))
set_option maxRecDepth 100000 in
set_option maxHeartbeats 4000000 in
theorem rc87 {E : xE} {M0 M : xM} {m nx R S Z : Nat} {x : Int32} {s : rS} {Q : Option Value → xM → Nat → Prop} (hb : xb E ≤ m) (h : rR M0 M m s) (hl : rLt s) (hR : R ≤ 6) (h9 : s.1 9 = nI R) (hnx : ∀ k, k < 48 → rRt (s.2 8 k)) (hS : S ≤ 16) (h22 : s.1 22 = nI S) (hZ : Z ≤ 32) (h4 : s.1 4 = nI Z) (hh : ∀ i, i < S → ∃ B, B < 64 ∧ s.2 16 i = nI B)
    (hq : ∀ M', rR M0 M' m (rLook s R S Z x).2 → Q (some (.int (rLook s R S Z x).1)) M' nx) : XC E 87 [.ref m, .int x] M nx Q := by
  rw [rLook] at hq
  have fin : ∀ v s1 M1, (∀ M', rR M0 M' m (upd s1.1 4 0, s1.2) → Q (some (.int v)) M' nx) → rR M0 M1 m s1 → XZ E 87 (xZ E 87 Q) 20 [some (.ref m), some (.int x), none] [.int v] M1 nx 0 0 := by
    intro v s1 M1 kq h1
    refine XZ.runH 60 [26] ?_
    simp only [n87, t87, ↓xh, ↓xst, ↓xrunE, ↓rG, rL, rSt, updA, List.elem_nil, List.elem_cons, Nat.reduceBEq, Bool.false_eq_true, if_false, if_true, true_and, and_true, true_or, or_true, not_false_eq_true, Nat.reduceAdd, Nat.reduceSub, Nat.reduceLeDiff, Nat.reduceEqDiff, Nat.reduceLT, ↓reduceIte, List.length_cons, List.length_nil, List.set_cons_zero, List.set_cons_succ, Nat.le_refl, Nat.zero_le, Nat.zero_sub, Nat.sub_zero, List.nil_append, List.cons_append, Option.toList_some, Option.toList_none, eq_self, ↓rO1 h1.1, hb]
    refine XZ.abs h1.fl (fun M2 h2 => ?_)
    refine XZ.runH 60 [] ?_
    simp only [n87, t87, ↓xh, ↓xst, ↓xrunE, ↓rG, rL, rSt, updA, List.elem_nil, List.elem_cons, Nat.reduceBEq, Bool.false_eq_true, if_false, if_true, true_and, and_true, true_or, or_true, not_false_eq_true, Nat.reduceAdd, Nat.reduceSub, Nat.reduceLeDiff, Nat.reduceEqDiff, Nat.reduceLT, ↓reduceIte, List.length_cons, List.length_nil, List.set_cons_zero, List.set_cons_succ, Nat.le_refl, Nat.zero_le, Nat.zero_sub, Nat.sub_zero, List.nil_append, List.cons_append, Option.toList_some, Option.toList_none, eq_self]
    exact kq M2 h2
  refine XC.run 60 [20, 26] ?_
  simp only [n87, n103, t87, ↓xh, ↓xst, ↓xrunE, ↓rG, rL, rSt, updA, List.elem_nil, List.elem_cons, Nat.reduceBEq, Bool.false_eq_true, if_false, if_true, true_and, and_true, true_or, or_true, not_false_eq_true, Nat.reduceAdd, Nat.reduceSub, Nat.reduceLeDiff, Nat.reduceEqDiff, Nat.reduceLT, ↓reduceIte, List.length_cons, List.length_nil, List.set_cons_zero, List.set_cons_succ, Nat.le_refl, Nat.zero_le, Nat.zero_sub, Nat.sub_zero, List.nil_append, List.cons_append, Option.toList_some, Option.toList_none, eq_self, ↓rO1 h.1]
  refine rc103 h.1 ?_
  refine XZ.runH 60 [20, 26] ?_
  by_cases c1 : rIsNode s x = true
  · rw [if_pos c1] at hq
    obtain ⟨A, hA, rfl⟩ := rIsNode_v c1
    rw [nI_clamp (by omega)] at hq
    simp only [n87, n105, t87, ↓xh, ↓xst, ↓xrunE, ↓rG, rL, rSt, updA, List.elem_nil, List.elem_cons, Nat.reduceBEq, Bool.false_eq_true, if_false, if_true, true_and, and_true, true_or, or_true, not_false_eq_true, Nat.reduceAdd, Nat.reduceSub, Nat.reduceLeDiff, Nat.reduceEqDiff, Nat.reduceLT, ↓reduceIte, List.length_cons, List.length_nil, List.set_cons_zero, List.set_cons_succ, Nat.le_refl, Nat.zero_le, Nat.zero_sub, Nat.sub_zero, List.nil_append, List.cons_append, Option.toList_some, Option.toList_none, eq_self, c1, show ¬ (1 : Int32) = 0 by decide, ↓rO1 h.1, nI_div8 A hA, show ¬ (8 : Int32) = 0 by decide]
    refine rc105 hb h hl hR h9 hnx hS h22 hZ h4 (by omega) hh (fun M1 h1 => ?_)
    refine XZ.runH 60 [20, 26] ?_
    simp only [n87, t87, ↓xh, ↓xst, ↓xrunE, ↓rG, rL, rSt, updA, List.elem_nil, List.elem_cons, Nat.reduceBEq, Bool.false_eq_true, if_false, if_true, true_and, and_true, true_or, or_true, not_false_eq_true, Nat.reduceAdd, Nat.reduceSub, Nat.reduceLeDiff, Nat.reduceEqDiff, Nat.reduceLT, ↓reduceIte, List.length_cons, List.length_nil, List.set_cons_zero, List.set_cons_succ, Nat.le_refl, Nat.zero_le, Nat.zero_sub, Nat.sub_zero, List.nil_append, List.cons_append, Option.toList_some, Option.toList_none, eq_self]
    exact fin _ _ M1 hq h1
  · rw [if_neg c1] at hq
    simp only [n87, t87, ↓xh, ↓xst, ↓xrunE, ↓rG, rL, rSt, updA, List.elem_nil, List.elem_cons, Nat.reduceBEq, Bool.false_eq_true, if_false, if_true, true_and, and_true, true_or, or_true, not_false_eq_true, Nat.reduceAdd, Nat.reduceSub, Nat.reduceLeDiff, Nat.reduceEqDiff, Nat.reduceLT, ↓reduceIte, List.length_cons, List.length_nil, List.set_cons_zero, List.set_cons_succ, Nat.le_refl, Nat.zero_le, Nat.zero_sub, Nat.sub_zero, List.nil_append, List.cons_append, Option.toList_some, Option.toList_none, eq_self, c1]
    exact fin _ s M hq h
