/-! one try -/
section TR1
variable {E : xE} {B nx : Nat} {M0 M : xM} {A : cA} {v : cV} {s : rS} {Q : Option Value → xM → Nat → Prop}
theorem cAt.f3 {v : cV} {s : rS} {i e k L : Nat} (h : cAt v s i e k L) : k < 8 ∧ v 11 (8 * i + k) 3 = s.2 23 (8 * i + e) := by
  obtain ⟨h1, h2, h3, σ, h4, h5⟩ := h
  have a := h4.1 e h1
  rw [h5] at a
  exact ⟨a.1, a.2.2.2.2.1⟩
set_option maxRecDepth 100000 in
set_option maxHeartbeats 4000000 in
theorem mf30 {c i a b e k L : Nat} {sx : rS} {l3 : Option Value} (hc : c < A 2 3) (ei : A 10 c = i) (ha : a < 8) (hb : b < 8) (h : cR E B M0 M A v) (now : v 0 0 14 = sx.1 21) (hT : cQ A (uv v 11 (8 * i + k) (w [v 11 (8 * i + k) 0, v 11 (8 * i + k) 1, v 11 (8 * i + k) 2, v 11 (8 * i + k) 3, sx.1 21])) (sx.1, up2 sx.2 24 (8 * i + e) (sx.1 21))) (hA : cAt (uv v 11 (8 * i + k) (w [v 11 (8 * i + k) 0, v 11 (8 * i + k) 1, v 11 (8 * i + k) 2, v 11 (8 * i + k) 3, sx.1 21])) (sx.1, up2 sx.2 24 (8 * i + e) (sx.1 21)) i e k (L + 1)) (e1 : rCn sx c = a) (e2 : rHm sx i = b)
    (hq : ∀ M' v', cR E B M0 M' A v' → cQ A v' (rAt2 sx (A 2 1) c i a b e L) → kF v v' → Q none M' nx) : XZ E 30 (xZ E 30 Q) 54 [some (.ref (A 0 0)), some (.ref (A 6 c)), some (.ref (A 5 i)), l3] [.ref (A 5 i + (3 + k))] M nx 0 0 := by
  have iS : i < A 2 2 := ei ▸ h.1.2.2.2.2.2 c hc
  have k8 := hA.f3.1
  have bl := cLb h iS k8
  have bs : xb E ≤ A 6 c := h.1.lo (kd := 22) (i := c) hc
  have e1' : rCn (sx.1, up2 sx.2 24 (8 * i + e) (sx.1 21)) c = a := by rw [← e1]; unfold rCn; simp [up2]
  have e2' : rHm (sx.1, up2 sx.2 24 (8 * i + e) (sx.1 21)) (A 10 c) = b := by rw [← e2, ei]; unfold rHm; simp [up2]
  simp only [rAt2] at hq
  have kT : kF v (uv v 11 (8 * i + k) (w [v 11 (8 * i + k) 0, v 11 (8 * i + k) 1, v 11 (8 * i + k) 2, v 11 (8 * i + k) 3, sx.1 21])) := kF.uv (Or.inr (Or.inl rfl))
  refine XZ.runH 60 [10, 18, 68, 85, 93, 116] ?_
  simp only [n30, t30, ↓xh, ↓xst, ↓xrunE, ↓rG, rL, rSt, updA, List.elem_nil, List.elem_cons, Nat.reduceBEq, Bool.false_eq_true, if_false, if_true, true_and, and_true, true_or, or_true, not_false_eq_true, Nat.reduceAdd, Nat.reduceSub, Nat.reduceLeDiff, Nat.reduceEqDiff, Nat.reduceLT, ↓reduceIte, List.length_cons, List.length_nil, List.set_cons_zero, List.set_cons_succ, Nat.le_refl, Nat.zero_le, Nat.zero_sub, Nat.sub_zero, List.nil_append, List.cons_append, Option.toList_some, Option.toList_none, eq_self, show ¬ (some (A 5 i + (3 + k)) = none) by simp, ↓cFx h, ↓cLi h iS k8, now, bl]
  refine XZ.abs2 (P := fun M' => cR E B M0 M' A (uv v 11 (8 * i + k) (w [v 11 (8 * i + k) 0, v 11 (8 * i + k) 1, v 11 (8 * i + k) 2, v 11 (8 * i + k) 3, sx.1 21]))) (cLs h iS k8 (jN_put M _ (lC (w [v 11 (8 * i + k) 0, v 11 (8 * i + k) 1, v 11 (8 * i + k) 2, v 11 (8 * i + k) 3, sx.1 21])))) (fun M1 h1 => ?_)
  generalize (uv v 11 (8 * i + k) (w [v 11 (8 * i + k) 0, v 11 (8 * i + k) 1, v 11 (8 * i + k) 2, v 11 (8 * i + k) 3, sx.1 21])) = vT at hT hA h1 kT
  generalize ((sx.1, up2 sx.2 24 (8 * i + e) (sx.1 21)) : rS) = sT at hT hA e1' e2' hq
  refine XZ.runH 60 [10, 18, 68, 85, 93, 116] ?_
  simp only [n30, n31, t30, ↓xh, ↓xst, ↓xrunE, ↓rG, rL, rSt, updA, List.elem_nil, List.elem_cons, Nat.reduceBEq, Bool.false_eq_true, if_false, if_true, true_and, and_true, true_or, or_true, not_false_eq_true, Nat.reduceAdd, Nat.reduceSub, Nat.reduceLeDiff, Nat.reduceEqDiff, Nat.reduceLT, ↓reduceIte, List.length_cons, List.length_nil, List.set_cons_zero, List.set_cons_succ, Nat.le_refl, Nat.zero_le, Nat.zero_sub, Nat.sub_zero, List.nil_append, List.cons_append, Option.toList_some, Option.toList_none, eq_self, ↓cFx h1]
  refine mc31 h1 hT hc ha hb e1' e2' (fun M2 v2 h2 m2 k2 => ?_)
  have kk11 : v2 11 = vT 11 := k2 11 (by decide) (by decide)
  have ar : ∀ j, j ≠ 34 → (rLk (A 2 1) c a b 8 0 sT).2 j = sT.2 j := fun j hj => rLk_2 _ _ _ _ hj 8 0 sT
  have kV2 : kF v v2 := kT.tr (fun kd h1 h2 h3 h4 h5 => k2 kd h1 h5)
  generalize rLk (A 2 1) c a b 8 0 sT = s2 at m2 hq ar
  have f9 := (m2.2.2.2.2 c hc).2.1.2.2.2.2.2.2.1
  have e11 : v2 11 (8 * i + k) 3 = s2.2 23 (8 * i + e) := by rw [kk11, ar 23 (by decide)]; exact hA.f3.2
  refine XZ.runH 60 [10, 18, 68, 85, 93, 116] ?_
  by_cases z : s2.2 34 c = 0
  rotate_left
  · rw [if_pos z] at hq
    simp only [n30, t30, ↓xh, ↓xst, ↓xrunE, ↓rG, rL, rSt, updA, List.elem_nil, List.elem_cons, Nat.reduceBEq, Bool.false_eq_true, if_false, if_true, true_and, and_true, true_or, or_true, not_false_eq_true, Nat.reduceAdd, Nat.reduceSub, Nat.reduceLeDiff, Nat.reduceEqDiff, Nat.reduceLT, ↓reduceIte, List.length_cons, List.length_nil, List.set_cons_zero, List.set_cons_succ, Nat.le_refl, Nat.zero_le, Nat.zero_sub, Nat.sub_zero, List.nil_append, List.cons_append, Option.toList_some, Option.toList_none, eq_self, ↓cSe h2 hc, f9, z]
    refine XZ.runH 60 [] ?_
    simp only [n30, t30, ↓xh, ↓xst, ↓xrunE, ↓rG, rL, rSt, updA, List.elem_nil, List.elem_cons, Nat.reduceBEq, Bool.false_eq_true, if_false, if_true, true_and, and_true, true_or, or_true, not_false_eq_true, Nat.reduceAdd, Nat.reduceSub, Nat.reduceLeDiff, Nat.reduceEqDiff, Nat.reduceLT, ↓reduceIte, List.length_cons, List.length_nil, List.set_cons_zero, List.set_cons_succ, Nat.le_refl, Nat.zero_le, Nat.zero_sub, Nat.sub_zero, List.nil_append, List.cons_append, Option.toList_some, Option.toList_none, eq_self]
    exact hq M2 v2 h2 m2 kV2
  rw [if_neg (fun y => y z)] at hq
  simp only [n30, t30, ↓xh, ↓xst, ↓xrunE, ↓rG, rL, rSt, updA, List.elem_nil, List.elem_cons, Nat.reduceBEq, Bool.false_eq_true, if_false, if_true, true_and, and_true, true_or, or_true, not_false_eq_true, Nat.reduceAdd, Nat.reduceSub, Nat.reduceLeDiff, Nat.reduceEqDiff, Nat.reduceLT, ↓reduceIte, List.length_cons, List.length_nil, List.set_cons_zero, List.set_cons_succ, Nat.le_refl, Nat.zero_le, Nat.zero_sub, Nat.sub_zero, List.nil_append, List.cons_append, Option.toList_some, Option.toList_none, eq_self, ↓cSe h2 hc, f9, z, bs]
  refine XZ.abs2 (P := fun M' => cR E B M0 M' A (uv v2 22 c (w [v2 22 c 0, v2 22 c 1, 0, v2 22 c 3, v2 22 c 4, v2 22 c 5, 2, v2 22 c 7, v2 22 c 8, 0, v2 22 c 10, v2 22 c 11, v2 22 c 12]))) (h2.pw 22 c hc _ rfl rfl) (fun M3 h3 => ?_)
  have o3 := cSe h3 hc
  have l3' := cLi h3 iS k8
  simp only [uv_s, uv_k (show (11 : Nat) ≠ 22 by decide), w, List.getD_cons_zero, List.getD_cons_succ] at o3 l3'
  refine XZ.runH 60 [10, 18, 68, 85, 93, 116] ?_
  simp only [n30, t30, ↓xh, ↓xst, ↓xrunE, ↓rG, rL, rSt, updA, List.elem_nil, List.elem_cons, Nat.reduceBEq, Bool.false_eq_true, if_false, if_true, true_and, and_true, true_or, or_true, not_false_eq_true, Nat.reduceAdd, Nat.reduceSub, Nat.reduceLeDiff, Nat.reduceEqDiff, Nat.reduceLT, ↓reduceIte, List.length_cons, List.length_nil, List.set_cons_zero, List.set_cons_succ, Nat.le_refl, Nat.zero_le, Nat.zero_sub, Nat.sub_zero, List.nil_append, List.cons_append, Option.toList_some, Option.toList_none, eq_self, ↓o3, ↓l3', bs, e11]
  have q4 := m2.don (x := s2.2 23 (8 * i + e)) hc
  rw [f9, z] at q4
  refine XZ.abs2 (P := fun M' => cR E B M0 M' A (uv v2 22 c (w [v2 22 c 0, v2 22 c 1, 0, v2 22 c 3, v2 22 c 4, v2 22 c 5, 2, v2 22 c 7, v2 22 c 8, 0, v2 22 c 10, v2 22 c 11, s2.2 23 (8 * i + e)]))) (by have := h3.pw 22 c hc (w [v2 22 c 0, v2 22 c 1, 0, v2 22 c 3, v2 22 c 4, v2 22 c 5, 2, v2 22 c 7, v2 22 c 8, 0, v2 22 c 10, v2 22 c 11, s2.2 23 (8 * i + e)]) rfl rfl; rw [uv_uv] at this; exact this) (fun M4 h4 => ?_)
  have kV4 : kF v (uv v2 22 c (w [v2 22 c 0, v2 22 c 1, 0, v2 22 c 3, v2 22 c 4, v2 22 c 5, 2, v2 22 c 7, v2 22 c 8, 0, v2 22 c 10, v2 22 c 11, s2.2 23 (8 * i + e)])) := kV2.tr (kF.uv (by omega))
  have k411 : (uv v2 22 c (w [v2 22 c 0, v2 22 c 1, 0, v2 22 c 3, v2 22 c 4, v2 22 c 5, 2, v2 22 c 7, v2 22 c 8, 0, v2 22 c 10, v2 22 c 11, s2.2 23 (8 * i + e)])) 11 = vT 11 := by rw [uv_k (by decide)]; exact kk11
  have c4 : rCn ((s2.1, up2 (up2 s2.2 31 c 2) 37 c (s2.2 23 (8 * i + e))) : rS) c = a := by
    rw [← e1']
    unfold rCn
    simp [up2, ar 26 (by decide)]
  have d4 : rHm ((s2.1, up2 (up2 s2.2 31 c 2) 37 c (s2.2 23 (8 * i + e))) : rS) i = b := by
    rw [← e2', ei]
    unfold rHm
    simp [up2, ar 16 (by decide)]
  have ar4 : ∀ j, 20 ≤ j → j ≤ 24 → ((s2.1, up2 (up2 s2.2 31 c 2) 37 c (s2.2 23 (8 * i + e))) : rS).2 j = sT.2 j := fun j h1 h2 => by
    dsimp only
    rw [up2_n (by omega), up2_n (by omega), ar j (by omega)]
  generalize (uv v2 22 c (w [v2 22 c 0, v2 22 c 1, 0, v2 22 c 3, v2 22 c 4, v2 22 c 5, 2, v2 22 c 7, v2 22 c 8, 0, v2 22 c 10, v2 22 c 11, s2.2 23 (8 * i + e)])) = v4 at h4 q4 kV4 k411
  generalize ((s2.1, up2 (up2 s2.2 31 c 2) 37 c (s2.2 23 (8 * i + e))) : rS) = s4 at q4 hq c4 d4 ar4
  have c1 := (q4.2.2.2.2 c hc).1.2.1
  rw [c4] at c1
  have s0 := (q4.2.2.2.1 i iS).1
  rw [d4] at s0
  refine XZ.runH 60 [10, 18, 68, 85, 93, 116] ?_
  simp only [n30, n59, t30, ↓xh, ↓xst, ↓xrunE, ↓rG, rL, rSt, updA, List.elem_nil, List.elem_cons, Nat.reduceBEq, Bool.false_eq_true, if_false, if_true, true_and, and_true, true_or, or_true, not_false_eq_true, Nat.reduceAdd, Nat.reduceSub, Nat.reduceLeDiff, Nat.reduceEqDiff, Nat.reduceLT, ↓reduceIte, List.length_cons, List.length_nil, List.set_cons_zero, List.set_cons_succ, Nat.le_refl, Nat.zero_le, Nat.zero_sub, Nat.sub_zero, List.nil_append, List.cons_append, Option.toList_some, Option.toList_none, eq_self, ↓cFx h4, ↓cSe h4 hc, ↓cSv h4 iS, c1, s0]
  refine mc59 h4 q4 ha hb (fun M5 v5 h5 m5 k5 => ?_)
  refine XZ.runH 60 [] ?_
  by_cases got : rGot s4 (A 2 1) a b = true
  · rw [if_pos got] at hq ⊢
    have at5 : cAt v5 (rPk s4) i e k (L + 1) := hA.cg (fun x _ => by rw [k5 11 (by decide), k411]) (fun j h1 h2 => ar4 j h1 h2)
    have st := m5.stk iS at5
    simp only [n30, t30, ↓xh, ↓xst, ↓xrunE, ↓rG, rL, rSt, updA, List.elem_nil, List.elem_cons, Nat.reduceBEq, Bool.false_eq_true, if_false, if_true, true_and, and_true, true_or, or_true, not_false_eq_true, Nat.reduceAdd, Nat.reduceSub, Nat.reduceLeDiff, Nat.reduceEqDiff, Nat.reduceLT, ↓reduceIte, List.length_cons, List.length_nil, List.set_cons_zero, List.set_cons_succ, Nat.le_refl, Nat.zero_le, Nat.zero_sub, Nat.sub_zero, List.nil_append, List.cons_append, Option.toList_some, Option.toList_none, eq_self, show ¬ (1 : Int32) = 0 by decide, ↓cLi h5 iS k8, bl]
    exact hq _ _ (cLs h5 iS k8 (jN_put M5 _ (lC (w [0, v5 11 (8 * i + k) 1, v5 11 (8 * i + k) 2, v5 11 (8 * i + k) 3, v5 11 (8 * i + k) 4])))) st (kV4.tr (kF.tr (fun kd h1 _ _ _ _ => k5 kd h1) (kF.uv (Or.inr (Or.inl rfl)))))
  · rw [if_neg got] at hq ⊢
    simp only [n30, t30, ↓xh, ↓xst, ↓xrunE, ↓rG, rL, rSt, updA, List.elem_nil, List.elem_cons, Nat.reduceBEq, Bool.false_eq_true, if_false, if_true, true_and, and_true, true_or, or_true, not_false_eq_true, Nat.reduceAdd, Nat.reduceSub, Nat.reduceLeDiff, Nat.reduceEqDiff, Nat.reduceLT, ↓reduceIte, List.length_cons, List.length_nil, List.set_cons_zero, List.set_cons_succ, Nat.le_refl, Nat.zero_le, Nat.zero_sub, Nat.sub_zero, List.nil_append, List.cons_append, Option.toList_some, Option.toList_none, eq_self]
    exact hq _ _ h5 m5 (kV4.tr (fun kd h1 _ _ _ _ => k5 kd h1))
set_option maxRecDepth 100000 in
set_option maxHeartbeats 4000000 in
theorem mc30 {c : Nat} (h : cR E B M0 M A v) (hm : cQ A v s) (hc : c < A 2 3) (hq : ∀ M' v', cR E B M0 M' A v' → cQ A v' (rAtt s (A 2 1) c) → kF v v' → Q none M' nx) : XC E 30 [.ref (A 0 0), .ref (A 6 c)] M nx Q := by
  have hS := h.1.2.2.2.1
  have iS := h.1.2.2.2.2.2 c hc
  have bs : xb E ≤ A 6 c := h.1.lo (kd := 22) (i := c) hc
  have k0 := hm.2.2.2.2 c hc
  have ei : A 10 c = rSv s c := k0.1.2.2.1
  have now : v 0 0 14 = s.1 21 := hm.2.1.1.2.2.2
  have q1 := hm.trd hc
  have sv0 := hm.2.2.2.1 (A 10 c) iS
  have ha : rCn s c < 8 := k0.1.2.2.2
  have hb : rHm s (A 10 c) < 8 := sv0.2.1
  have eb : rSn s c = rHm s (A 10 c) := by unfold rSn rHm; rw [ei]
  rw [rAtt, eb, ← ei] at hq
  refine XC.run 60 [10, 18, 68, 85, 93, 116] ?_
  simp only [n30, t30, ↓xh, ↓xst, ↓xrunE, ↓rG, rL, rSt, updA, List.elem_nil, List.elem_cons, Nat.reduceBEq, Bool.false_eq_true, if_false, if_true, true_and, and_true, true_or, or_true, not_false_eq_true, Nat.reduceAdd, Nat.reduceSub, Nat.reduceLeDiff, Nat.reduceEqDiff, Nat.reduceLT, ↓reduceIte, List.length_cons, List.length_nil, List.set_cons_zero, List.set_cons_succ, Nat.le_refl, Nat.zero_le, Nat.zero_sub, Nat.sub_zero, List.nil_append, List.cons_append, Option.toList_some, Option.toList_none, eq_self, ↓cSe h hc, bs]
  refine XZ.abs2 (P := fun M' => cR E B M0 M' A (uv v 22 c (w [v 22 c 0, v 22 c 1, 0, v 22 c 3, v 22 c 4, v 22 c 5, v 22 c 6, v 22 c 7, v 22 c 8, v 22 c 9, v 22 c 10 + 1, v 22 c 11, v 22 c 12]))) (h.pw 22 c hc _ rfl rfl) (fun M1 h1 => ?_)
  have o1 := cSe h1 hc
  have x1 := cFx h1
  simp only [uv_s, w, List.getD_cons_zero, List.getD_cons_succ] at o1
  simp only [uv_k (show (0 : Nat) ≠ 22 by decide), now] at x1
  refine XZ.runH 60 [10, 18, 68, 85, 93, 116] ?_
  simp only [n30, t30, ↓xh, ↓xst, ↓xrunE, ↓rG, rL, rSt, updA, List.elem_nil, List.elem_cons, Nat.reduceBEq, Bool.false_eq_true, if_false, if_true, true_and, and_true, true_or, or_true, not_false_eq_true, Nat.reduceAdd, Nat.reduceSub, Nat.reduceLeDiff, Nat.reduceEqDiff, Nat.reduceLT, ↓reduceIte, List.length_cons, List.length_nil, List.set_cons_zero, List.set_cons_succ, Nat.le_refl, Nat.zero_le, Nat.zero_sub, Nat.sub_zero, List.nil_append, List.cons_append, Option.toList_some, Option.toList_none, eq_self, ↓o1, ↓x1, bs]
  refine XZ.abs2 (P := fun M' => cR E B M0 M' A (uv v 22 c (w [v 22 c 0, v 22 c 1, 0, v 22 c 3, v 22 c 4, v 22 c 5, v 22 c 6, v 22 c 7, v 22 c 8, v 22 c 9, v 22 c 10 + 1, s.1 21, v 22 c 12]))) (by have := h1.pw 22 c hc (w [v 22 c 0, v 22 c 1, 0, v 22 c 3, v 22 c 4, v 22 c 5, v 22 c 6, v 22 c 7, v 22 c 8, v 22 c 9, v 22 c 10 + 1, s.1 21, v 22 c 12]) rfl rfl; rw [uv_uv] at this; exact this) (fun M2 h2 => ?_)
  have kV2 : kF v (uv v 22 c (w [v 22 c 0, v 22 c 1, 0, v 22 c 3, v 22 c 4, v 22 c 5, v 22 c 6, v 22 c 7, v 22 c 8, v 22 c 9, v 22 c 10 + 1, s.1 21, v 22 c 12])) := kF.uv (by omega)
  generalize (uv v 22 c (w [v 22 c 0, v 22 c 1, 0, v 22 c 3, v 22 c 4, v 22 c 5, v 22 c 6, v 22 c 7, v 22 c 8, v 22 c 9, v 22 c 10 + 1, s.1 21, v 22 c 12])) = v2 at h2 q1 kV2
  have n1 : ∀ j, j ≠ 35 → j ≠ 36 → (rAt1 s c).2 j = s.2 j := fun j a b => by unfold rAt1; dsimp only; rw [up2_n b, up2_n a]
  have a1 : rCn (rAt1 s c) c = rCn s c := by unfold rCn; rw [n1 26 (by decide) (by decide)]
  have b1 : rHm (rAt1 s c) (A 10 c) = rHm s (A 10 c) := by unfold rHm; rw [n1 16 (by decide) (by decide)]
  have c1 := (q1.2.2.2.2 c hc).1.2.1
  rw [a1] at c1
  have s0 := (q1.2.2.2.1 (A 10 c) iS).1
  rw [b1] at s0
  refine XZ.runH 60 [10, 18, 68, 85, 93, 116] ?_
  simp only [n30, n59, t30, ↓xh, ↓xst, ↓xrunE, ↓rG, rL, rSt, updA, List.elem_nil, List.elem_cons, Nat.reduceBEq, Bool.false_eq_true, if_false, if_true, true_and, and_true, true_or, or_true, not_false_eq_true, Nat.reduceAdd, Nat.reduceSub, Nat.reduceLeDiff, Nat.reduceEqDiff, Nat.reduceLT, ↓reduceIte, List.length_cons, List.length_nil, List.set_cons_zero, List.set_cons_succ, Nat.le_refl, Nat.zero_le, Nat.zero_sub, Nat.sub_zero, List.nil_append, List.cons_append, Option.toList_some, Option.toList_none, eq_self, ↓cFx h2, ↓cSe h2 hc, ↓cSv h2 iS, c1, s0]
  refine mc59 h2 q1 ha hb (fun M3 v3 h3 m3 k3 => ?_)
  have kV3 : kF v v3 := kV2.tr (fun kd h1 _ _ _ _ => k3 kd h1)
  have sv := m3.2.2.2.1 (A 10 c) iS
  have se := m3.2.2.2.2 c hc
  obtain ⟨t1, t2, t3, t4, t5, t6, L, hL, h20, ⟨σ, hl⟩, T, hT, eT, ht⟩ := id sv
  have n3 : ∀ j, j ≠ 35 → j ≠ 36 → (rPk (rAt1 s c)).2 j = s.2 j := n1
  have clL : (s.2 20 (A 10 c)).toNatClampNeg = L := by rw [← n3 20 (by decide) (by decide), h20, nI_clamp (by omega)]
  rw [rAtM, clL] at hq
  refine XZ.runH 60 [] ?_
  by_cases got : rGot (rAt1 s c) (A 2 1) (rCn s c) (rHm s (A 10 c)) = true
  rotate_left
  · rw [if_pos (Or.inl (by simpa using got))] at hq
    rw [if_neg got]
    simp only [n30, t30, ↓xh, ↓xst, ↓xrunE, ↓rG, rL, rSt, updA, List.elem_nil, List.elem_cons, Nat.reduceBEq, Bool.false_eq_true, if_false, if_true, true_and, and_true, true_or, or_true, not_false_eq_true, Nat.reduceAdd, Nat.reduceSub, Nat.reduceLeDiff, Nat.reduceEqDiff, Nat.reduceLT, ↓reduceIte, List.length_cons, List.length_nil, List.set_cons_zero, List.set_cons_succ, Nat.le_refl, Nat.zero_le, Nat.zero_sub, Nat.sub_zero, List.nil_append, List.cons_append, Option.toList_some, Option.toList_none, eq_self]
    exact hq _ _ h3 m3 kV3
  rw [if_pos got]
  by_cases dr : (rPk (rAt1 s c)).2 17 (A 10 c) = 0
  rotate_left
  · rw [if_pos (Or.inr dr)] at hq
    simp only [n30, t30, ↓xh, ↓xst, ↓xrunE, ↓rG, rL, rSt, updA, List.elem_nil, List.elem_cons, Nat.reduceBEq, Bool.false_eq_true, if_false, if_true, true_and, and_true, true_or, or_true, not_false_eq_true, Nat.reduceAdd, Nat.reduceSub, Nat.reduceLeDiff, Nat.reduceEqDiff, Nat.reduceLT, ↓reduceIte, List.length_cons, List.length_nil, List.set_cons_zero, List.set_cons_succ, Nat.le_refl, Nat.zero_le, Nat.zero_sub, Nat.sub_zero, List.nil_append, List.cons_append, Option.toList_some, Option.toList_none, eq_self, show ¬ (1 : Int32) = 0 by decide, ↓cSv h3 iS, t3, dr]
    exact hq _ _ h3 m3 kV3
  rw [if_neg (by simp [got, dr])] at hq
  simp only [n30, n64, t30, ↓xh, ↓xst, ↓xrunE, ↓rG, rL, rSt, updA, List.elem_nil, List.elem_cons, Nat.reduceBEq, Bool.false_eq_true, if_false, if_true, true_and, and_true, true_or, or_true, not_false_eq_true, Nat.reduceAdd, Nat.reduceSub, Nat.reduceLeDiff, Nat.reduceEqDiff, Nat.reduceLT, ↓reduceIte, List.length_cons, List.length_nil, List.set_cons_zero, List.set_cons_succ, Nat.le_refl, Nat.zero_le, Nat.zero_sub, Nat.sub_zero, List.nil_append, List.cons_append, Option.toList_some, Option.toList_none, eq_self, show ¬ (1 : Int32) = 0 by decide, ↓cSv h3 iS, t3, dr]
  have now3 : v3 0 0 14 = (rPk (rAt1 s c)).1 21 := m3.2.1.1.2.2.2
  have a3 : rCn (rPk (rAt1 s c)) c = rCn s c := a1
  have b3 : rHm (rPk (rAt1 s c)) (A 10 c) = rHm s (A 10 c) := b1
  have q3 : (s.2 32 c).toNatClampNeg = ((rPk (rAt1 s c)).2 32 c).toNatClampNeg := by rw [n3 32 (by decide) (by decide)]
  rw [q3] at hq
  generalize rPk (rAt1 s c) = s3 at *
  obtain ⟨⟨g0, g1, g2, g3⟩, ⟨f3, f4, f5, f6, f7, f8, f9, f10, f11, f12⟩, b28, b29, b34, q, hq8, eq⟩ := se
  rw [eq, nI_clamp (by omega)] at hq
  have fnd := hl.find (x := nI c) (y := s3.2 30 c)
  refine mc64 h3 iS hc hq8 (f7.trans eq) (fun k z => ?_) (fun z1 z2 => ?_) (fun k k8 z1 z2 M4 h4 => ?_)
  · rw [g0, f5] at z
    cases he : rEnt s3 (A 10 c) (nI c) (s3.2 30 c) L 0 with
    | none =>
      rw [(fnd.2 he).1] at z
      exact absurd z (by simp)
    | some e =>
      rw [he] at hq
      dsimp only at hq
      obtain ⟨eL, z'⟩ := fnd.1 e he
      rw [z'] at z
      injection z with z
      have hAt : cAt v3 s3 (A 10 c) e k ((L - 1) + 1) := by rw [show L - 1 + 1 = L by omega]; exact ⟨eL, hL, h20, σ, hl, z⟩
      obtain ⟨tQ, tA⟩ := m3.tim iS hAt
      exact mf30 hc rfl ha hb h3 now3 tQ tA a3 b3 (fun M' v' h' m' k' => hq M' v' h' m' (kV3.tr k'))
  · rw [g0, f5] at z1 z2
    cases he : rEnt s3 (A 10 c) (nI c) (s3.2 30 c) L 0 with
    | some e =>
      rw [(fnd.1 e he).2] at z1
      exact absurd z1 (by simp)
    | none =>
      rw [he] at hq
      dsimp only at hq
      rw [if_pos ((fnd.2 he).2.2.1 z2)] at hq
      refine XZ.runH 60 [] ?_
      simp only [n30, t30, ↓xh, ↓xst, ↓xrunE, ↓rG, rL, rSt, updA, List.elem_nil, List.elem_cons, Nat.reduceBEq, Bool.false_eq_true, if_false, if_true, true_and, and_true, true_or, or_true, not_false_eq_true, Nat.reduceAdd, Nat.reduceSub, Nat.reduceLeDiff, Nat.reduceEqDiff, Nat.reduceLT, ↓reduceIte, List.length_cons, List.length_nil, List.set_cons_zero, List.set_cons_succ, Nat.le_refl, Nat.zero_le, Nat.zero_sub, Nat.sub_zero, List.nil_append, List.cons_append, Option.toList_some, Option.toList_none, eq_self]
      exact hq _ _ h3 m3 kV3
  · rw [g0, f5] at z1 z2
    cases he : rEnt s3 (A 10 c) (nI c) (s3.2 30 c) L 0 with
    | some e =>
      rw [(fnd.1 e he).2] at z1
      exact absurd z1 (by simp)
    | none =>
      rw [he] at hq
      dsimp only at hq
      obtain ⟨u1, u2, u3⟩ := (fnd.2 he).2.2.2 k z2
      rw [if_neg u3] at hq
      have L8 : L < 8 := by omega
      rw [g0, f5] at h4
      have car := m3.car (c := c) (g19 := w [v3 19 (A 10 c) 0, 0, 0, v3 19 (A 10 c) 3, 0, v3 19 (A 10 c) 5 + 1]) (g20 := if q ≤ 3 then v3 20 (A 10 c) else upd (v3 20 (A 10 c)) (q % 4) (v3 22 c 8)) (g11 := w [1, nI c, s3.2 30 c - 1, v3 20 (A 10 c) (q % 4), s3.1 21]) iS hq8 L8 h20 hl u1 u2 (fnd.2 he).2.1 ⟨rfl, rfl, rfl⟩ (fun x hx => by
        by_cases y : q ≤ 3
        · rw [if_pos y, if_neg (fun z => z.1 y)]
        · rw [if_neg y, updA]
          by_cases y2 : x = q % 4
          · rw [if_pos y2, if_pos ⟨y, y2⟩, f8]
          · rw [if_neg y2, if_neg (fun z => y2 z.2)]) ⟨rfl, rfl, rfl, rfl, rfl⟩
      have r1 := (rCar_v s3 (A 10 c) c q L).1
      have rn := (rCar_v s3 (A 10 c) c q L).2.1
      have uu : ∀ g g' : Nat → Int32, uv (cCr v3 (A 10 c) k (w [v3 19 (A 10 c) 0, 0, 0, v3 19 (A 10 c) 3, 0, v3 19 (A 10 c) 5 + 1]) (if q ≤ 3 then v3 20 (A 10 c) else upd (v3 20 (A 10 c)) (q % 4) (v3 22 c 8)) g) 11 (8 * A 10 c + k) g' = cCr v3 (A 10 c) k (w [v3 19 (A 10 c) 0, 0, 0, v3 19 (A 10 c) 3, 0, v3 19 (A 10 c) 5 + 1]) (if q ≤ 3 then v3 20 (A 10 c) else upd (v3 20 (A 10 c)) (q % 4) (v3 22 c 8)) g' := fun g g' => by unfold cCr; rw [uv_uv]
      have s11 : ∀ g, cCr v3 (A 10 c) k (w [v3 19 (A 10 c) 0, 0, 0, v3 19 (A 10 c) 3, 0, v3 19 (A 10 c) 5 + 1]) (if q ≤ 3 then v3 20 (A 10 c) else upd (v3 20 (A 10 c)) (q % 4) (v3 22 c 8)) g 11 (8 * A 10 c + k) = g := fun g => by unfold cCr; rw [uv_s]
      refine mf30 (sx := rCar s3 (A 10 c) c q L) (e := L) (L := L) hc rfl ha hb h4 ?_ ?_ ?_ ?_ ?_ (fun M' v' h' m' k' => hq M' v' h' m' (kV3.tr (kF.tr ?_ k')))
      · unfold cCr
        rw [uv_k (by decide), uv_k (by decide), uv_k (by decide), r1]
        exact now3
      · rw [uu, s11, r1]
        have := car.1
        rw [r1] at this
        exact this
      · rw [uu, s11, r1]
        have := car.2
        rw [r1] at this
        exact this
      · rw [← a3]
        unfold rCn
        rw [rn 26 (by decide)]
      · rw [← b3]
        unfold rHm
        rw [rn 16 (by decide)]
      · exact ((kF.uv (by omega)).tr (kF.uv (by omega))).tr (kF.uv (by omega))
end TR1
