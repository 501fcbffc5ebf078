/-! router -/
theorem cQ.mA {A A' : cA} {v v' : cV} {s s' : rS} (h : cQ A v s) (m : cM A' v' s') (a2 : A' 2 2 = A 2 2) (a3 : A' 2 3 = A 2 3) (a10 : ∀ c, c < A 2 3 → A' 10 c = A 10 c) (y1 : ∀ f, f ≠ 4 → f ≠ 7 → f ≠ 9 → s'.1 f = s.1 f) (y2 : ∀ j, 16 ≤ j → s'.2 j = s.2 j) (k : ∀ kd, kd = 0 ∨ kd = 9 ∨ kd = 11 ∨ kd = 19 ∨ kd = 20 ∨ kd = 22 → v' kd = v kd) : cQ A' v' s' := by
  obtain ⟨_, n, l, sv, se⟩ := h
  refine ⟨m, ?_, ?_, fun i hi => ?_, fun c hc => ?_⟩
  · unfold cN at n ⊢
    rw [k 0 (by omega), a2, a3, y1 0 (by decide) (by decide) (by decide), y1 1 (by decide) (by decide) (by decide), y1 2 (by decide) (by decide) (by decide), y1 21 (by decide) (by decide) (by decide), y1 22 (by decide) (by decide) (by decide), y1 34 (by decide) (by decide) (by decide)]
    exact n
  · unfold cLn at l ⊢
    rw [k 9 (by omega), y1 47 (by decide) (by decide) (by decide), y1 48 (by decide) (by decide) (by decide)]
    exact l
  · rw [a2] at hi
    exact (sv i hi).cg (by rw [k 19 (by omega)]) (by rw [k 20 (by omega)]) (fun x _ => by rw [k 11 (by omega)]) (rSi'.of (y1 21 (by decide) (by decide) (by decide)) (fun j h1 h2 => y2 j (by omega)) i)
  · rw [a3] at hc
    have := (se c hc).cg (v' := v') (s' := s') (by rw [k 22 (by omega)]) (fun j h1 h2 => by rw [y2 j (by omega)])
    unfold cC1 at this ⊢
    rw [a10 c hc]
    exact this
theorem cH.A {A A' : cA} {s : rS} (h : cH A s) (a0 : A 2 0 ≤ A' 2 0) (a2 : A' 2 2 = A 2 2) (a3 : A' 2 3 = A 2 3) (a10 : ∀ c, c < A 2 3 → A' 10 c = A 10 c) : cH A' s := by
  obtain ⟨h1, h2, h3, h4, h5⟩ := h
  unfold cH
  rw [a2, a3]
  refine ⟨h1, fun i hi => ?_, fun c hc => by rw [a10 c hc]; exact h3 c hc, h4, h5⟩
  obtain ⟨b, hb, e, l⟩ := h2 i hi
  exact ⟨b, hb, e, by omega⟩
theorem up2_up2 (a : Nat → Nat → Int32) (j i : Nat) (x y : Int32) : up2 (up2 a j i x) j i y = up2 a j i y := by
  funext j' i'
  unfold up2
  by_cases e : j' = j
  · subst e
    by_cases e2 : i' = i
    · simp [e2]
    · simp [e2]
  · simp [e]
section RTW
variable {E : xE} {nx : Nat} {M : xM} {A : cA} {v : cV} {s : rS} {Q : Option Value → xM → Nat → Prop}
set_option maxRecDepth 100000 in
set_option maxHeartbeats 4000000 in
theorem w34 {mask : Int32} (h : cW E nx M A v s) (hq : cP E nx M A (rRouter s (A 2 1) (A 2 0) mask).2 (some (.int (rRouter s (A 2 1) (A 2 0) mask).1)) Q) : XC E 34 [.ref (A 0 0 + 3), .int mask] M nx Q := by
  have hN := h.1.1.2.1
  have hR := h.1.1.2.2.1
  obtain ⟨r, q, d, t, n, f, hh, l, b⟩ := id h
  have n1 := q.1.1.1
  have n3 := q.1.1.2.1
  rw [rRouter] at hq
  refine XC.run 60 [56] ?_
  simp only [n34, n139, t34, ↓xh, ↓xst, ↓xrunE, ↓rG, rL, rSt, updA, List.elem_nil, List.elem_cons, Nat.reduceBEq, Bool.false_eq_true, if_false, if_true, true_and, and_true, true_or, or_true, not_false_eq_true, Nat.reduceAdd, Nat.reduceSub, Nat.reduceLeDiff, Nat.reduceEqDiff, Nat.reduceLT, ↓reduceIte, List.length_cons, List.length_nil, List.set_cons_zero, List.set_cons_succ, Nat.le_refl, Nat.zero_le, Nat.zero_sub, Nat.sub_zero, List.nil_append, List.cons_append, Option.toList_some, Option.toList_none, eq_self]
  refine jc139 ?_
  refine XZ.runH 60 [56] ?_
  rcases msk (x := mask) hN with ⟨m, hm, rfl⟩ | ⟨mk, sh⟩
  rotate_left
  · rw [mk] at hq
    have sh' : ¬ (mask.toUInt32 >>> ((nI (A 2 0)).toUInt32 &&& Int32.toUInt32 31)).toInt32 = 0 := sh
    by_cases c1 : jBc mask < 2
    · simp only [n34, t34, ↓xh, ↓xst, ↓xrunE, ↓rG, rL, rSt, updA, List.elem_nil, List.elem_cons, Nat.reduceBEq, Bool.false_eq_true, if_false, if_true, true_and, and_true, true_or, or_true, not_false_eq_true, Nat.reduceAdd, Nat.reduceSub, Nat.reduceLeDiff, Nat.reduceEqDiff, Nat.reduceLT, ↓reduceIte, List.length_cons, List.length_nil, List.set_cons_zero, List.set_cons_succ, Nat.le_refl, Nat.zero_le, Nat.zero_sub, Nat.sub_zero, List.nil_append, List.cons_append, Option.toList_some, Option.toList_none, eq_self, ↓cFx r, n1, sh', lT c1]
      exact hq.z h
    by_cases c2 : 4 < jBc mask
    · simp only [n34, t34, ↓xh, ↓xst, ↓xrunE, ↓rG, rL, rSt, updA, List.elem_nil, List.elem_cons, Nat.reduceBEq, Bool.false_eq_true, if_false, if_true, true_and, and_true, true_or, or_true, not_false_eq_true, Nat.reduceAdd, Nat.reduceSub, Nat.reduceLeDiff, Nat.reduceEqDiff, Nat.reduceLT, ↓reduceIte, List.length_cons, List.length_nil, List.set_cons_zero, List.set_cons_succ, Nat.le_refl, Nat.zero_le, Nat.zero_sub, Nat.sub_zero, List.nil_append, List.cons_append, Option.toList_some, Option.toList_none, eq_self, ↓cFx r, n1, sh', lF c1, lT c2]
      exact hq.z h
    simp only [n34, t34, ↓xh, ↓xst, ↓xrunE, ↓rG, rL, rSt, updA, List.elem_nil, List.elem_cons, Nat.reduceBEq, Bool.false_eq_true, if_false, if_true, true_and, and_true, true_or, or_true, not_false_eq_true, Nat.reduceAdd, Nat.reduceSub, Nat.reduceLeDiff, Nat.reduceEqDiff, Nat.reduceLT, ↓reduceIte, List.length_cons, List.length_nil, List.set_cons_zero, List.set_cons_succ, Nat.le_refl, Nat.zero_le, Nat.zero_sub, Nat.sub_zero, List.nil_append, List.cons_append, Option.toList_some, Option.toList_none, eq_self, ↓cFx r, n1, sh', lF c1, lF c2]
    exact hq.z h
  have pw : 2 ^ A 2 0 ≤ 2 ^ 8 := Nat.pow_le_pow_right (by decide) hN
  have sh : ((nI m).toUInt32 >>> ((nI (A 2 0)).toUInt32 &&& Int32.toUInt32 31)).toInt32 = 0 := ush_n (by omega) hm
  have jb := jBc_v m (by omega)
  have c8 := cnt_le (rBit (nI m)) 8
  rw [rMk_v (A 2 0) (by omega) m hm] at hq
  dsimp only at hq
  by_cases c1 : cnt (rBit (nI m)) 8 < 2
  · rw [if_pos (Or.inl c1)] at hq
    have z := lT (show nI (cnt (rBit (nI m)) 8) < 2 from (nI_lti (b := 2) (by omega) (by decide)).mpr c1)
    simp only [n34, t34, ↓xh, ↓xst, ↓xrunE, ↓rG, rL, rSt, updA, List.elem_nil, List.elem_cons, Nat.reduceBEq, Bool.false_eq_true, if_false, if_true, true_and, and_true, true_or, or_true, not_false_eq_true, Nat.reduceAdd, Nat.reduceSub, Nat.reduceLeDiff, Nat.reduceEqDiff, Nat.reduceLT, ↓reduceIte, List.length_cons, List.length_nil, List.set_cons_zero, List.set_cons_succ, Nat.le_refl, Nat.zero_le, Nat.zero_sub, Nat.sub_zero, List.nil_append, List.cons_append, Option.toList_some, Option.toList_none, eq_self, ↓cFx r, n1, sh, jb, z]
    exact hq.z h
  have z1 := lF (show ¬ nI (cnt (rBit (nI m)) 8) < 2 from k2_nlt (nI_le (a := 2) (show 2 ≤ cnt (rBit (nI m)) 8 by omega) (by omega)))
  by_cases c2 : 4 < cnt (rBit (nI m)) 8
  · rw [if_pos (Or.inr (Or.inl c2))] at hq
    have z := lT (show 4 < nI (cnt (rBit (nI m)) 8) from (nI_lti (a := 4) (by decide) (by omega)).mpr c2)
    simp only [n34, t34, ↓xh, ↓xst, ↓xrunE, ↓rG, rL, rSt, updA, List.elem_nil, List.elem_cons, Nat.reduceBEq, Bool.false_eq_true, if_false, if_true, true_and, and_true, true_or, or_true, not_false_eq_true, Nat.reduceAdd, Nat.reduceSub, Nat.reduceLeDiff, Nat.reduceEqDiff, Nat.reduceLT, ↓reduceIte, List.length_cons, List.length_nil, List.set_cons_zero, List.set_cons_succ, Nat.le_refl, Nat.zero_le, Nat.zero_sub, Nat.sub_zero, List.nil_append, List.cons_append, Option.toList_some, Option.toList_none, eq_self, ↓cFx r, n1, sh, jb, z1, z]
    exact hq.z h
  have z2 := lF (show ¬ 4 < nI (cnt (rBit (nI m)) 8) from k2_nlt (nI_le (b := 4) (show cnt (rBit (nI m)) 8 ≤ 4 by omega) (by decide)))
  by_cases c3 : 6 ≤ A 2 1
  · rw [if_pos (Or.inr (Or.inr c3))] at hq
    have z : ¬ nI (A 2 1) < 6 := k2_nlt (nI_le (a := 6) c3 (by omega))
    simp only [n34, t34, ↓xh, ↓xst, ↓xrunE, ↓rG, rL, rSt, updA, List.elem_nil, List.elem_cons, Nat.reduceBEq, Bool.false_eq_true, if_false, if_true, true_and, and_true, true_or, or_true, not_false_eq_true, Nat.reduceAdd, Nat.reduceSub, Nat.reduceLeDiff, Nat.reduceEqDiff, Nat.reduceLT, ↓reduceIte, List.length_cons, List.length_nil, List.set_cons_zero, List.set_cons_succ, Nat.le_refl, Nat.zero_le, Nat.zero_sub, Nat.sub_zero, List.nil_append, List.cons_append, Option.toList_some, Option.toList_none, eq_self, ↓cFx r, n1, n3, sh, jb, z1, z2, show ¬ (1 : Int32) = 0 by decide, z]
    exact hq.z h
  rw [if_neg (by rintro (z | z | z); exact c1 z; exact c2 z; exact c3 z)] at hq
  have R6 : A 2 1 < 6 := by omega
  have z3 : nI (A 2 1) < 6 := (nI_lti (b := 6) (by omega) (by decide)).mpr R6
  simp only [n34, t34, ↓xh, ↓xst, ↓xrunE, ↓rG, rL, rSt, updA, List.elem_nil, List.elem_cons, Nat.reduceBEq, Bool.false_eq_true, if_false, if_true, true_and, and_true, true_or, or_true, not_false_eq_true, Nat.reduceAdd, Nat.reduceSub, Nat.reduceLeDiff, Nat.reduceEqDiff, Nat.reduceLT, ↓reduceIte, List.length_cons, List.length_nil, List.set_cons_zero, List.set_cons_succ, Nat.le_refl, Nat.zero_le, Nat.zero_sub, Nat.sub_zero, List.nil_append, List.cons_append, Option.toList_some, Option.toList_none, eq_self, ↓cFx r, n1, n3, sh, jb, z1, z2, z3, show ¬ (1 : Int32) = 0 by decide, cx6]
  refine XZ.abs2 (P := fun M' => jN M M' nx (.inl (6, [.null, .int 0, .int 0, .null, .null, .null]))) (jN_put M nx _) (fun M1 j1 => ?_)
  refine XZ.runH 60 [] ?_
  simp only [n34, n48, t34, ↓xh, ↓xst, ↓xrunE, ↓rG, rL, rSt, updA, List.elem_nil, List.elem_cons, Nat.reduceBEq, Bool.false_eq_true, if_false, if_true, true_and, and_true, true_or, or_true, not_false_eq_true, Nat.reduceAdd, Nat.reduceSub, Nat.reduceLeDiff, Nat.reduceEqDiff, Nat.reduceLT, ↓reduceIte, List.length_cons, List.length_nil, List.set_cons_zero, List.set_cons_succ, Nat.le_refl, Nat.zero_le, Nat.zero_sub, Nat.sub_zero, List.nil_append, List.cons_append, Option.toList_some, Option.toList_none, eq_self]
  refine mc48 b j1.1 (fun M2 t2 => ?_)
  rw [jb] at t2
  have fr2 : ∀ q, q < nx → M2 q = M q := fun q hq => (t2.2.2.2.2.2.2 q (by omega)).trans (j1.2 q (by omega))
  have r2 := r.fr (M' := M2) fr2
  have iR := nIx R6
  have b5 : xb E ≤ A 0 0 + 5 := r.1.lo (kd := 6) (i := 0) ⟨rfl, by decide⟩
  have lt5 : A 0 0 + 5 < nx := r.1.hi (kd := 6) (i := 0) ⟨rfl, by decide⟩
  obtain ⟨g1, back⟩ := gr34 r2 b R6 t2
  refine XZ.runH 60 [62, 86] ?_
  simp only [n34, t34, ↓xh, ↓xst, ↓xrunE, ↓rG, rL, rSt, updA, List.elem_nil, List.elem_cons, Nat.reduceBEq, Bool.false_eq_true, if_false, if_true, true_and, and_true, true_or, or_true, not_false_eq_true, Nat.reduceAdd, Nat.reduceSub, Nat.reduceLeDiff, Nat.reduceEqDiff, Nat.reduceLT, ↓reduceIte, List.length_cons, List.length_nil, List.set_cons_zero, List.set_cons_succ, Nat.le_refl, Nat.zero_le, Nat.zero_sub, Nat.sub_zero, List.nil_append, List.cons_append, Option.toList_some, Option.toList_none, eq_self, ↓cFx r2, iR, xaR, show xaci 5 = 6 by decide, ↓cO t2.1, b5]
  refine XZ.abs2 (P := fun M' => cR E (nx + 13) M' M' (A34 A nx) (vRt v (A 2 1) (nI m) (nI (cnt (rBit (nI m)) 8))) ∧ ∀ q, q < nx → ¬ ccl A q → M' q = M q) ⟨g1, fun q hq hc => ?_⟩ (fun M3 r3' => ?_)
  · have nc : q ≠ A 0 0 + 5 := fun z => hc ⟨6, 0, ⟨rfl, by decide⟩, z.symm⟩
    rw [xput_ne nc, fr2 q hq]
  obtain ⟨r3, f3⟩ := r3'
  obtain ⟨b0, b20, b21, b22, b23, b4, b4R, bo⟩ := A34_v A nx
  have RR : A 2 1 < A34 A nx 2 1 := by omega
  have v4 : vRt v (A 2 1) (nI m) (nI (cnt (rBit (nI m)) 8)) 4 0 = v 4 0 := by unfold vRt; simp
  have x3 := cFx r3
  simp only [b0, v4, n3] at x3
  have ro3 := cRo r3 RR
  simp only [b4R] at ro3
  have key : ∀ Q' : Option Value → xM → Nat → Prop, (∀ M' v', cR E (nx + 13) M3 M' (A34 A nx) v' → cTf (vRt v (A 2 1) (nI m) (nI (cnt (rBit (nI m)) 8))) v' (A 2 1) 1 8 → Q' none M' (nx + 13)) → XC E 47 [.ref nx, .int 1] M3 (nx + 13) Q' := fun Q' hq' => by
    have := mc47 (nx := nx + 13) (y := 1) (Q := Q') r3 RR (Or.inr rfl) hq'
    rw [b4R] at this
    exact this
  refine XZ.runH 60 [] ?_
  simp only [n34, n47, t34, ↓xh, ↓xst, ↓xrunE, ↓rG, rL, rSt, updA, List.elem_nil, List.elem_cons, Nat.reduceBEq, Bool.false_eq_true, if_false, if_true, true_and, and_true, true_or, or_true, not_false_eq_true, Nat.reduceAdd, Nat.reduceSub, Nat.reduceLeDiff, Nat.reduceEqDiff, Nat.reduceLT, ↓reduceIte, List.length_cons, List.length_nil, List.set_cons_zero, List.set_cons_succ, Nat.le_refl, Nat.zero_le, Nat.zero_sub, Nat.sub_zero, List.nil_append, List.cons_append, Option.toList_some, Option.toList_none, eq_self, ↓x3, iR, RR, b4R, ↓ro3]
  refine key _ (fun M4 v4' r4 t4 => ?_)
  have e44 : v4' 4 = vRt v (A 2 1) (nI m) (nI (cnt (rBit (nI m)) 8)) 4 := t4.1 4 (by decide) (by decide)
  have x4 := cFx r4
  simp only [b0, e44, v4, n3] at x4
  have b3 : xb E ≤ A 0 0 + 3 := r.1.lo (kd := 4) (i := 0) ⟨rfl, by decide⟩
  have r5 := r4.pw (a := A 0 0 + 3) (c := .inl (2, [.ref (A 0 0 + 4), .int (v 4 0 1), .ref (A 0 0 + 5), .int (nI (A 2 1 + 1))])) 4 0 ⟨rfl, by decide⟩ (w [0, v 4 0 1, 0, nI (A 2 1 + 1)]) (by show _ = A34 A nx 0 0 + 3; rw [b0]) (by unfold cct; rw [b0]; rfl)
  refine XZ.runH 60 [] ?_
  simp only [n34, t34, ↓xh, ↓xst, ↓xrunE, ↓rG, rL, rSt, updA, List.elem_nil, List.elem_cons, Nat.reduceBEq, Bool.false_eq_true, if_false, if_true, true_and, and_true, true_or, or_true, not_false_eq_true, Nat.reduceAdd, Nat.reduceSub, Nat.reduceLeDiff, Nat.reduceEqDiff, Nat.reduceLT, ↓reduceIte, List.length_cons, List.length_nil, List.set_cons_zero, List.set_cons_succ, Nat.le_refl, Nat.zero_le, Nat.zero_sub, Nat.sub_zero, List.nil_append, List.cons_append, Option.toList_some, Option.toList_none, eq_self, ↓x4, b3, nI_1]
  have ac : ∀ q, ¬ ccl A q → q ≠ A 0 0 + 3 := fun q hq z => hq ⟨4, 0, ⟨rfl, by decide⟩, z.symm⟩
  have fr5 : ∀ q, q < nx → ¬ ccl A q → M4 q = M q := fun q hq hc => by
    have nc : ¬ ccl (A34 A nx) q := fun z => hc (back q hq z)
    rw [r4.2.2 q nc]
    exact f3 q hq hc
  have kk : ∀ kd, kd ≠ 4 → kd ≠ 10 → kd ≠ 14 → kd ≠ 15 → kd ≠ 17 → kd ≠ 18 → uv v4' 4 0 (w [0, v 4 0 1, 0, nI (A 2 1 + 1)]) kd = v kd := fun kd h4 h10 h14 h15 h17 h18 => by
    rw [uv_k h4, t4.1 kd h10 h14]
    funext i
    unfold vRt
    rw [if_neg (fun z => h10 z.1), if_neg (fun z => h14 z.1), if_neg (fun z => h15 z.1), if_neg (fun z => z.1.elim h17 h18)]
  have mN := q.1.nr (A' := A34 A nx) (v' := uv (vRt v (A 2 1) (nI m) (nI (cnt (rBit (nI m)) 8))) 4 0 (w [0, v 4 0 1, 0, nI (A 2 1 + 1)])) R6 hN hm b20 b21 (by rw [uv_s]; exact ⟨rfl, rfl⟩) (fun r hr => by
      rw [uv_k (by decide), uv_k (by decide)]
      unfold vRt
      constructor
      · rw [if_neg (by omega), if_neg (by omega), if_neg (by omega), if_neg (by omega)]
      · rw [if_neg (by omega), if_neg (by omega), if_neg (by omega), if_neg (by omega)]) (by
      rw [uv_k (by decide)]
      have : vRt v (A 2 1) (nI m) (nI (cnt (rBit (nI m)) 8)) 14 (A 2 1) = w [0, nI (cnt (rBit (nI m)) 8), 0] := by unfold vRt; simp
      rw [this]
      exact ⟨rfl, rfl⟩) (fun k hk => by
      rw [uv_k (by decide)]
      have : vRt v (A 2 1) (nI m) (nI (cnt (rBit (nI m)) 8)) 15 (A 2 1) = fun j => if j < 8 ∧ rBit (nI m) j = true then 1 else 0 := by unfold vRt; simp
      rw [this]
      simp [hk]) (fun i hi => by
      rw [uv_k (by decide)]
      unfold vRt
      rw [if_neg (by omega), if_neg (by omega), if_neg (by omega), if_neg (by omega)]) (fun n hn => by
      rw [uv_k (by decide)]
      have : vRt v (A 2 1) (nI m) (nI (cnt (rBit (nI m)) 8)) 10 (8 * A 2 1 + n) = zE := by unfold vRt; rw [if_pos ⟨rfl, by omega, by omega⟩]
      rw [this]
      exact ⟨rfl, rfl⟩)
  have mT := mN.turn (v' := uv v4' 4 0 (w [0, v 4 0 1, 0, nI (A 2 1 + 1)])) (r := A 2 1) (y := 1) (by omega) RR (Or.inr rfl) (fun kd h10 h14 => by
      by_cases z : kd = 4
      · subst z
        funext i
        unfold uv
        split
        · rfl
        · rw [t4.1 4 (by decide) (by decide)]
      · rw [uv_k z, uv_k z]
        exact t4.1 kd h10 h14) (fun r' hr' => by rw [uv_k (by decide), uv_k (by decide)]; exact t4.2.1 r' hr') (by rw [uv_k (by decide), uv_k (by decide)]; exact t4.2.2.1) (fun i hi => by rw [uv_k (by decide), uv_k (by decide)]; exact t4.2.2.2.1 i hi) (fun n hn => by rw [uv_k (by decide), uv_k (by decide), uv_k (by decide)]; exact t4.2.2.2.2 n hn)
  have es : rFresh ((upd s.1 9 (nI (A 2 1 + 1)), up2 (up2 (up2 s.2 5 (A 2 1) (nI m)) 6 (A 2 1) 0) 6 (A 2 1) 1) : rS) (A 2 1) = (upd s.1 9 (nI (A 2 1 + 1)), (rFresh (s.1, up2 (up2 s.2 5 (A 2 1) (nI m)) 6 (A 2 1) 1) (A 2 1)).2) := by
    rw [up2_up2]
    rfl
  rw [es] at mT
  have ar : ∀ j, (j < 5 ∨ 11 < j) → (rFresh (s.1, up2 (up2 s.2 5 (A 2 1) (nI m)) 6 (A 2 1) 1) (A 2 1)).2 j = s.2 j := fun j hj => by
    rw [rFresh_n (by omega)]
    dsimp only
    rw [up2_n (by omega), up2_n (by omega)]
  have z : ∀ f, f ≠ 9 → upd s.1 9 (nI (A 2 1 + 1)) f = s.1 f := fun f hf => by simp [upd, hf]
  refine hq _ (A34 A nx) _ (nx + 13) (by omega) b0 ⟨r5.rf, ?_, ?_, ?_, ?_, ?_, ?_, ?_, by omega⟩ (fun q hq hc => ?_) back
  · exact q.mA mT b22 b23 (fun c _ => bo 10 c (by decide) (by decide)) (fun f _ _ h9 => z f h9) (fun j hj => ar j (by omega)) (fun kd hk => kk kd (by omega) (by omega) (by omega) (by omega) (by omega) (by omega))
  · have := d.sm (v' := uv v4' 4 0 (w [0, v 4 0 1, 0, nI (A 2 1 + 1)])) (s' := (upd s.1 9 (nI (A 2 1 + 1)), (rFresh (s.1, up2 (up2 s.2 5 (A 2 1) (nI m)) 6 (A 2 1) 1) (A 2 1)).2)) (kk 13 (by decide) (by decide) (by decide) (by decide) (by decide) (by decide)) (ar 4 (by decide))
    unfold cNd at this ⊢
    rw [b20]
    exact this
  · have := t.sm (v' := uv v4' 4 0 (w [0, v 4 0 1, 0, nI (A 2 1 + 1)])) (s' := (upd s.1 9 (nI (A 2 1 + 1)), (rFresh (s.1, up2 (up2 s.2 5 (A 2 1) (nI m)) 6 (A 2 1) 1) (A 2 1)).2)) (kk 23 (by decide) (by decide) (by decide) (by decide) (by decide) (by decide)) (kk 24 (by decide) (by decide) (by decide) (by decide) (by decide) (by decide)) (z 4 (by decide)) (ar 1 (by decide))
    unfold cTx at this ⊢
    rw [bo 1 1 (by decide) (by decide)]
    exact this
  · intro t' ht'
    have nl : nlv A t' := by unfold nlv at ht' ⊢; rw [b20, b22] at ht'; exact ht'
    refine n.gr (A' := A34 A nx) (nx' := nx + 13) (s' := (upd s.1 9 (nI (A 2 1 + 1)), (rFresh (s.1, up2 (up2 s.2 5 (A 2 1) (nI m)) 6 (A 2 1) 1) (A 2 1)).2)) (by omega) (fun q hq hc => ?_) back (fun t _ => ⟨bo 7 t (by decide) (by decide), bo 8 t (by decide) (by decide)⟩) (fun t _ k _ => congrFun (ar 2 (by decide)) _) (fun t _ => congrFun (ar 3 (by decide)) _) (fun t ht => ?_) t' nl
    · rw [xput_ne (ac q hc)]
      exact fr5 q hq hc
    · refine (l.1 t ?_).1
      have := h.1.1.2.2.2.1
      unfold nlv at ht
      omega
  · obtain ⟨f1, f2, F, hF, eF'⟩ := f
    refine ⟨?_, ?_, F, hF, ?_⟩
    · rw [kk 0 (by decide) (by decide) (by decide) (by decide) (by decide) (by decide)]
      exact f1
    · rw [kk 1 (by decide) (by decide) (by decide) (by decide) (by decide) (by decide)]
      exact f2.trans (ar 25 (by decide)).symm
    · exact eF'
  · refine (hh.sm (s' := (upd s.1 9 (nI (A 2 1 + 1)), (rFresh (s.1, up2 (up2 s.2 5 (A 2 1) (nI m)) 6 (A 2 1) 1) (A 2 1)).2)) ?_ (fun j hj => ar j (by omega)) (fun c _ _ j j1 _ => congrFun (ar j (by omega)) c) (fun i _ _ => ⟨congrFun (ar 17 (by decide)) i, fun k _ => congrFun (ar 18 (by decide)) _, congrFun (ar 19 (by decide)) i, congrFun (ar 20 (by decide)) i⟩)).A (by omega) b22 b23 (fun c _ => bo 10 c (by decide) (by decide))
    have hj : rJ ((s.1, up2 s.2 5 (A 2 1) (nI m)) : rS) := fun k hk => by
      have e7 : ((s.1, up2 s.2 5 (A 2 1) (nI m)) : rS).2 7 = s.2 7 := by funext x; simp [up2]
      have e8 : ((s.1, up2 s.2 5 (A 2 1) (nI m)) : rS).2 8 = s.2 8 := by funext x; simp [up2]
      rw [e7, e8]
      exact hh.1 k hk
    exact hj.fr (r := A 2 1) (y := 1)
  · exact l.sm (ar 1 (by decide)) (ar 2 (by decide)) (ar 3 (by decide))
  · rw [xput_ne (ac q hc)]
    exact fr5 q hq hc
set_option maxRecDepth 100000 in
set_option maxHeartbeats 4000000 in
theorem w5 {mask : Int32} (h : cW E nx M A v s) (hq : cP E nx M A (rRouter s (A 2 1) (A 2 0) mask).2 (some (.int (rRouter s (A 2 1) (A 2 0) mask).1)) Q) : XC E 5 [.ref (A 0 0), .int mask] M nx Q := by
  refine XC.run 60 [] ?_
  simp only [n5, n34, t5, ↓xh, ↓xst, ↓xrunE, ↓rG, rL, rSt, updA, List.elem_nil, List.elem_cons, Nat.reduceBEq, Bool.false_eq_true, if_false, if_true, true_and, and_true, true_or, or_true, not_false_eq_true, Nat.reduceAdd, Nat.reduceSub, Nat.reduceLeDiff, Nat.reduceEqDiff, Nat.reduceLT, ↓reduceIte, List.length_cons, List.length_nil, List.set_cons_zero, List.set_cons_succ, Nat.le_refl, Nat.zero_le, Nat.zero_sub, Nat.sub_zero, List.nil_append, List.cons_append, Option.toList_some, Option.toList_none, eq_self, ↓cFx h.1]
  refine w34 h (fun M' A' v' nx' h1 h2 h3 h4 h5 => ?_)
  refine XZ.runH 20 [] ?_
  simp only [n5, t5, ↓xh, ↓xst, ↓xrunE, ↓rG, rL, rSt, updA, List.elem_nil, List.elem_cons, Nat.reduceBEq, Bool.false_eq_true, if_false, if_true, true_and, and_true, true_or, or_true, not_false_eq_true, Nat.reduceAdd, Nat.reduceSub, Nat.reduceLeDiff, Nat.reduceEqDiff, Nat.reduceLT, ↓reduceIte, List.length_cons, List.length_nil, List.set_cons_zero, List.set_cons_succ, Nat.le_refl, Nat.zero_le, Nat.zero_sub, Nat.sub_zero, List.nil_append, List.cons_append, Option.toList_some, Option.toList_none, eq_self]
  exact hq M' A' v' nx' h1 h2 h3 h4 h5
end RTW
