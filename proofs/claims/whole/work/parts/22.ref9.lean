theorem nI_and3 : ∀ q, q < 8 → nI q &&& 3 = nI (q % 4) := by decide +kernel
theorem nI_le3 : ∀ q, q < 8 → (nI q ≤ 3 ↔ q ≤ 3) := by decide +kernel
/-- a command carried out: the next entry of a list of L -/
def rCar (s : rS) (i c q L : Nat) : rS :=
  (s.1, if q ≤ 3 then up2 (up2 (up2 (up2 (up2 s.2 20 i (nI (L + 1))) 19 i (s.2 19 i + 1)) 21 (8 * i + L) (nI c)) 22 (8 * i + L) (s.2 30 c)) 23 (8 * i + L) (s.2 18 (4 * i + q % 4))
    else up2 (up2 (up2 (up2 (up2 (up2 s.2 20 i (nI (L + 1))) 19 i (s.2 19 i + 1)) 21 (8 * i + L) (nI c)) 22 (8 * i + L) (s.2 30 c)) 23 (8 * i + L) (s.2 18 (4 * i + q % 4))) 18 (4 * i + q % 4) (s.2 33 c))
set_option maxRecDepth 100000 in
set_option maxHeartbeats 4000000 in
theorem rc124 {E : xE} {M0 M : xM} {m nx i c q L : Nat} {s : rS} {Q : Option Value → xM → Nat → Prop} (hb : xb E ≤ m) (h : rR M0 M m s) (hi : i < 16) (hc : c < 12) (hq8 : q < 8) (hL : L < 8) (hs : s.2 20 i = nI L) (hk : s.2 32 c = nI q) (hq : ∀ M', rR M0 M' m (rCar s i c q L) → Q (some (.int (nI L))) M' nx) : XC E 124 [.ref m, .int (nI i), .int (nI c)] M nx Q := by
  have ii := nIx hi
  have ic := nIx hc
  have il := nIx (show 8 * i + L < 128 by omega)
  have i4 := nIx (show 4 * i + q % 4 < 64 by omega)
  have n3 := nI_le3 q hq8
  refine XC.run 60 [17, 27, 53, 70, 88, 111] ?_
  simp only [n124, t124, ↓xh, ↓xst, ↓xrunE, ↓rG, rL, rSt, updA, List.elem_nil, List.elem_cons, Nat.reduceBEq, Bool.false_eq_true, if_false, if_true, true_and, and_true, true_or, or_true, not_false_eq_true, Nat.reduceAdd, Nat.reduceSub, Nat.reduceLeDiff, Nat.reduceEqDiff, Nat.reduceLT, ↓reduceIte, List.length_cons, List.length_nil, List.set_cons_zero, List.set_cons_succ, Nat.le_refl, Nat.zero_le, Nat.zero_sub, Nat.sub_zero, List.nil_append, List.cons_append, Option.toList_some, Option.toList_none, eq_self, ↓rO1 h.1, ↓rB h.1, ii, hs, nI_1, xn0, xbj hb]
  refine XZ.abs (h.arr 20 _ _ (by decide) (by decide)) (fun M1 h1 => ?_)
  refine XZ.runH 60 [17, 27, 53, 70, 88, 111] ?_
  simp only [n124, t124, ↓xh, ↓xst, ↓xrunE, ↓rG, rL, rSt, updA, List.elem_nil, List.elem_cons, Nat.reduceBEq, Bool.false_eq_true, if_false, if_true, true_and, and_true, true_or, or_true, not_false_eq_true, Nat.reduceAdd, Nat.reduceSub, Nat.reduceLeDiff, Nat.reduceEqDiff, Nat.reduceLT, ↓reduceIte, List.length_cons, List.length_nil, List.set_cons_zero, List.set_cons_succ, Nat.le_refl, Nat.zero_le, Nat.zero_sub, Nat.sub_zero, List.nil_append, List.cons_append, Option.toList_some, Option.toList_none, eq_self, ↓rO1 h1.1, ↓rB h1.1, ii, up2A, xn0, xbj hb]
  refine XZ.abs (h1.arr 19 _ _ (by decide) (by decide)) (fun M2 h2 => ?_)
  refine XZ.runH 60 [17, 27, 53, 70, 88, 111] ?_
  simp only [n124, t124, ↓xh, ↓xst, ↓xrunE, ↓rG, rL, rSt, updA, List.elem_nil, List.elem_cons, Nat.reduceBEq, Bool.false_eq_true, if_false, if_true, true_and, and_true, true_or, or_true, not_false_eq_true, Nat.reduceAdd, Nat.reduceSub, Nat.reduceLeDiff, Nat.reduceEqDiff, Nat.reduceLT, ↓reduceIte, List.length_cons, List.length_nil, List.set_cons_zero, List.set_cons_succ, Nat.le_refl, Nat.zero_le, Nat.zero_sub, Nat.sub_zero, List.nil_append, List.cons_append, Option.toList_some, Option.toList_none, eq_self, ↓rO1 h2.1, ↓rB h2.1, ii, ic, hk, nI_and3 q hq8, nIm4, nIm8, nI_add, il, up2A, xn0, xbj hb]
  refine XZ.abs (h2.arr 21 _ _ (by decide) (by decide)) (fun M3 h3 => ?_)
  refine XZ.runH 60 [17, 27, 53, 70, 88, 111] ?_
  simp only [n124, t124, ↓xh, ↓xst, ↓xrunE, ↓rG, rL, rSt, updA, List.elem_nil, List.elem_cons, Nat.reduceBEq, Bool.false_eq_true, if_false, if_true, true_and, and_true, true_or, or_true, not_false_eq_true, Nat.reduceAdd, Nat.reduceSub, Nat.reduceLeDiff, Nat.reduceEqDiff, Nat.reduceLT, ↓reduceIte, List.length_cons, List.length_nil, List.set_cons_zero, List.set_cons_succ, Nat.le_refl, Nat.zero_le, Nat.zero_sub, Nat.sub_zero, List.nil_append, List.cons_append, Option.toList_some, Option.toList_none, eq_self, ↓rO1 h3.1, ↓rB h3.1, ic, nIm8, nI_add, il, up2A, xn0, xbj hb]
  refine XZ.abs (h3.arr 22 _ _ (by decide) (by decide)) (fun M4 h4 => ?_)
  refine XZ.runH 60 [17, 27, 53, 70, 88, 111] ?_
  simp only [n124, t124, ↓xh, ↓xst, ↓xrunE, ↓rG, rL, rSt, updA, List.elem_nil, List.elem_cons, Nat.reduceBEq, Bool.false_eq_true, if_false, if_true, true_and, and_true, true_or, or_true, not_false_eq_true, Nat.reduceAdd, Nat.reduceSub, Nat.reduceLeDiff, Nat.reduceEqDiff, Nat.reduceLT, ↓reduceIte, List.length_cons, List.length_nil, List.set_cons_zero, List.set_cons_succ, Nat.le_refl, Nat.zero_le, Nat.zero_sub, Nat.sub_zero, List.nil_append, List.cons_append, Option.toList_some, Option.toList_none, eq_self, ↓rO1 h4.1, ↓rB h4.1, i4, nIm8, nI_add, il, up2A, xn0, xbj hb]
  refine XZ.abs (h4.arr 23 _ _ (by decide) (by decide)) (fun M5 h5 => ?_)
  refine XZ.runH 60 [17, 27, 53, 70, 88, 111] ?_
  by_cases c3 : q ≤ 3
  · simp only [n124, t124, ↓xh, ↓xst, ↓xrunE, ↓rG, rL, rSt, updA, List.elem_nil, List.elem_cons, Nat.reduceBEq, Bool.false_eq_true, if_false, if_true, true_and, and_true, true_or, or_true, not_false_eq_true, Nat.reduceAdd, Nat.reduceSub, Nat.reduceLeDiff, Nat.reduceEqDiff, Nat.reduceLT, ↓reduceIte, List.length_cons, List.length_nil, List.set_cons_zero, List.set_cons_succ, Nat.le_refl, Nat.zero_le, Nat.zero_sub, Nat.sub_zero, List.nil_append, List.cons_append, Option.toList_some, Option.toList_none, eq_self, ↓rO1 h5.1, ↓rB h5.1, ic, up2A, hk, n3.mpr c3]
    refine XZ.runH 60 [] ?_
    simp only [n124, t124, ↓xh, ↓xst, ↓xrunE, ↓rG, rL, rSt, updA, List.elem_nil, List.elem_cons, Nat.reduceBEq, Bool.false_eq_true, if_false, if_true, true_and, and_true, true_or, or_true, not_false_eq_true, Nat.reduceAdd, Nat.reduceSub, Nat.reduceLeDiff, Nat.reduceEqDiff, Nat.reduceLT, ↓reduceIte, List.length_cons, List.length_nil, List.set_cons_zero, List.set_cons_succ, Nat.le_refl, Nat.zero_le, Nat.zero_sub, Nat.sub_zero, List.nil_append, List.cons_append, Option.toList_some, Option.toList_none, eq_self]
    exact hq M5 (h5.to (by rw [rCar, if_pos c3]))
  · simp only [n124, t124, ↓xh, ↓xst, ↓xrunE, ↓rG, rL, rSt, updA, List.elem_nil, List.elem_cons, Nat.reduceBEq, Bool.false_eq_true, if_false, if_true, true_and, and_true, true_or, or_true, not_false_eq_true, Nat.reduceAdd, Nat.reduceSub, Nat.reduceLeDiff, Nat.reduceEqDiff, Nat.reduceLT, ↓reduceIte, List.length_cons, List.length_nil, List.set_cons_zero, List.set_cons_succ, Nat.le_refl, Nat.zero_le, Nat.zero_sub, Nat.sub_zero, List.nil_append, List.cons_append, Option.toList_some, Option.toList_none, eq_self, ↓rO1 h5.1, ↓rB h5.1, ic, up2A, hk, show ¬ nI q ≤ 3 from fun z => c3 (n3.mp z), i4, xn0, xbj hb]
    refine XZ.abs (h5.arr 18 _ _ (by decide) (by decide)) (fun M6 h6 => ?_)
    refine XZ.runH 60 [] ?_
    simp only [n124, t124, ↓xh, ↓xst, ↓xrunE, ↓rG, rL, rSt, updA, List.elem_nil, List.elem_cons, Nat.reduceBEq, Bool.false_eq_true, if_false, if_true, true_and, and_true, true_or, or_true, not_false_eq_true, Nat.reduceAdd, Nat.reduceSub, Nat.reduceLeDiff, Nat.reduceEqDiff, Nat.reduceLT, ↓reduceIte, List.length_cons, List.length_nil, List.set_cons_zero, List.set_cons_succ, Nat.le_refl, Nat.zero_le, Nat.zero_sub, Nat.sub_zero, List.nil_append, List.cons_append, Option.toList_some, Option.toList_none, eq_self]
    exact hq M6 (h6.to (by rw [rCar, if_neg c3]))
/-- network of a session's client, its server, network of its server -/
def rCn (s : rS) (c : Nat) : Nat := (s.2 26 c).toNatClampNeg / 8
def rSv (s : rS) (c : Nat) : Nat := (s.2 27 c).toNatClampNeg
def rSn (s : rS) (c : Nat) : Nat := (s.2 16 (rSv s c)).toNatClampNeg / 8
def rSe (s : rS) (c : Nat) : Prop := c < 12 ∧ ∃ A i B, s.2 26 c = nI A ∧ A < 64 ∧ s.2 27 c = nI i ∧ i < 16 ∧ s.2 16 i = nI B ∧ B < 64 ∧ rCn s c = A / 8 ∧ rSv s c = i ∧ rSn s c = B / 8
theorem rSe_mk {s : rS} {c A i B : Nat} (hc : c < 12) (hA : s.2 26 c = nI A) (hA' : A < 64) (hi : s.2 27 c = nI i) (hi' : i < 16) (hB : s.2 16 i = nI B) (hB' : B < 64) : rSe s c := by
  have e : rSv s c = i := by rw [rSv, hi, nI_clamp (by omega)]
  refine ⟨hc, A, i, B, hA, hA', hi, hi', hB, hB', ?_, e, ?_⟩
  · rw [rCn, hA, nI_clamp (by omega)]
  · rw [rSn, e, hB, nI_clamp (by omega)]
def rSilV (s : rS) (R c : Nat) : Int32 := if rWay s R (rCn s c) (rSn s c) < 0 ∨ rWay s R (rSn s c) (rCn s c) < 0 then s.2 29 c + 1 else 0
def rSil (s : rS) (R c : Nat) : rS :=
  if ¬ s.2 28 c = 0 then s else if rSilV s R c = 5 then (s.1, up2 (up2 (up2 s.2 29 c (rSilV s R c)) 28 c 1) 31 c (if s.2 31 c = 1 then 3 else s.2 31 c)) else (s.1, up2 s.2 29 c (rSilV s R c))
set_option maxRecDepth 100000 in
set_option maxHeartbeats 4000000 in
theorem rc111 {E : xE} {M0 M : xM} {m nx c R : Nat} {s : rS} {Q : Option Value → xM → Nat → Prop} (hb : xb E ≤ m) (h : rR M0 M m s) (hR : R ≤ 6) (hs : s.1 9 = nI R) (hnx : ∀ k, k < 48 → rRt (s.2 8 k)) (he : rSe s c) (hq : ∀ M', rR M0 M' m (rSil s R c) → Q none M' nx) : XC E 111 [.ref m, .int (nI c)] M nx Q := by
  obtain ⟨hc, A, i, B, hA, hA', hi, hi', hB, hB', eA, ei, eB⟩ := he
  have ic := nIx hc
  have ii := nIx hi'
  have rest : ∀ M1 l2 l3, rSilV s R c = rSilV s R c → s.2 28 c = 0 → rR M0 M1 m (s.1, up2 s.2 29 c (rSilV s R c)) → XZ E 111 (xZ E 111 Q) 71 [some (.ref m), some (.int (nI c)), l2, l3] [] M1 nx 0 0 := by
    intro M1 l2 l3 _ z h1
    refine XZ.runH 60 [71, 88, 114] ?_
    by_cases c5 : rSilV s R c = 5
    · simp only [n111, t111, ↓xh, ↓xst, ↓xrunE, ↓rG, rL, rSt, updA, List.elem_nil, List.elem_cons, Nat.reduceBEq, Bool.false_eq_true, if_false, if_true, true_and, and_true, true_or, or_true, not_false_eq_true, Nat.reduceAdd, Nat.reduceSub, Nat.reduceLeDiff, Nat.reduceEqDiff, Nat.reduceLT, ↓reduceIte, List.length_cons, List.length_nil, List.set_cons_zero, List.set_cons_succ, Nat.le_refl, Nat.zero_le, Nat.zero_sub, Nat.sub_zero, List.nil_append, List.cons_append, Option.toList_some, Option.toList_none, eq_self, ↓rO1 h1.1, ↓rB h1.1, ic, up2A, c5, xn2b, xbj hb]
      rw [c5] at h1
      refine XZ.abs (h1.arr 28 _ _ (by decide) (by decide)) (fun M2 h2 => ?_)
      refine XZ.runH 60 [71, 88, 114] ?_
      by_cases c1 : s.2 31 c = 1
      · simp only [n111, t111, ↓xh, ↓xst, ↓xrunE, ↓rG, rL, rSt, updA, List.elem_nil, List.elem_cons, Nat.reduceBEq, Bool.false_eq_true, if_false, if_true, true_and, and_true, true_or, or_true, not_false_eq_true, Nat.reduceAdd, Nat.reduceSub, Nat.reduceLeDiff, Nat.reduceEqDiff, Nat.reduceLT, ↓reduceIte, List.length_cons, List.length_nil, List.set_cons_zero, List.set_cons_succ, Nat.le_refl, Nat.zero_le, Nat.zero_sub, Nat.sub_zero, List.nil_append, List.cons_append, Option.toList_some, Option.toList_none, eq_self, ↓rO1 h2.1, ↓rB h2.1, ic, up2A, c1, xn0, xbj hb]
        refine XZ.abs (h2.arr 31 _ _ (by decide) (by decide)) (fun M3 h3 => ?_)
        refine XZ.runH 60 [] ?_
        simp only [n111, t111, ↓xh, ↓xst, ↓xrunE, ↓rG, rL, rSt, updA, List.elem_nil, List.elem_cons, Nat.reduceBEq, Bool.false_eq_true, if_false, if_true, true_and, and_true, true_or, or_true, not_false_eq_true, Nat.reduceAdd, Nat.reduceSub, Nat.reduceLeDiff, Nat.reduceEqDiff, Nat.reduceLT, ↓reduceIte, List.length_cons, List.length_nil, List.set_cons_zero, List.set_cons_succ, Nat.le_refl, Nat.zero_le, Nat.zero_sub, Nat.sub_zero, List.nil_append, List.cons_append, Option.toList_some, Option.toList_none, eq_self]
        refine hq M3 (h3.to ?_)
        rw [rSil, if_neg (by simp [z]), if_pos c5, if_pos c1, c5]
      · simp only [n111, t111, ↓xh, ↓xst, ↓xrunE, ↓rG, rL, rSt, updA, List.elem_nil, List.elem_cons, Nat.reduceBEq, Bool.false_eq_true, if_false, if_true, true_and, and_true, true_or, or_true, not_false_eq_true, Nat.reduceAdd, Nat.reduceSub, Nat.reduceLeDiff, Nat.reduceEqDiff, Nat.reduceLT, ↓reduceIte, List.length_cons, List.length_nil, List.set_cons_zero, List.set_cons_succ, Nat.le_refl, Nat.zero_le, Nat.zero_sub, Nat.sub_zero, List.nil_append, List.cons_append, Option.toList_some, Option.toList_none, eq_self, ↓rO1 h2.1, ↓rB h2.1, ic, up2A, c1, xn0, xbj hb]
        refine XZ.abs (h2.arr 31 _ _ (by decide) (by decide)) (fun M3 h3 => ?_)
        refine XZ.runH 60 [] ?_
        simp only [n111, t111, ↓xh, ↓xst, ↓xrunE, ↓rG, rL, rSt, updA, List.elem_nil, List.elem_cons, Nat.reduceBEq, Bool.false_eq_true, if_false, if_true, true_and, and_true, true_or, or_true, not_false_eq_true, Nat.reduceAdd, Nat.reduceSub, Nat.reduceLeDiff, Nat.reduceEqDiff, Nat.reduceLT, ↓reduceIte, List.length_cons, List.length_nil, List.set_cons_zero, List.set_cons_succ, Nat.le_refl, Nat.zero_le, Nat.zero_sub, Nat.sub_zero, List.nil_append, List.cons_append, Option.toList_some, Option.toList_none, eq_self]
        refine hq M3 (h3.to ?_)
        rw [rSil, if_neg (by simp [z]), if_pos c5, if_neg c1, c5]
    · simp only [n111, t111, ↓xh, ↓xst, ↓xrunE, ↓rG, rL, rSt, updA, List.elem_nil, List.elem_cons, Nat.reduceBEq, Bool.false_eq_true, if_false, if_true, true_and, and_true, true_or, or_true, not_false_eq_true, Nat.reduceAdd, Nat.reduceSub, Nat.reduceLeDiff, Nat.reduceEqDiff, Nat.reduceLT, ↓reduceIte, List.length_cons, List.length_nil, List.set_cons_zero, List.set_cons_succ, Nat.le_refl, Nat.zero_le, Nat.zero_sub, Nat.sub_zero, List.nil_append, List.cons_append, Option.toList_some, Option.toList_none, eq_self, ↓rO1 h1.1, ↓rB h1.1, ic, up2A, c5]
      refine XZ.runH 60 [] ?_
      simp only [n111, t111, ↓xh, ↓xst, ↓xrunE, ↓rG, rL, rSt, updA, List.elem_nil, List.elem_cons, Nat.reduceBEq, Bool.false_eq_true, if_false, if_true, true_and, and_true, true_or, or_true, not_false_eq_true, Nat.reduceAdd, Nat.reduceSub, Nat.reduceLeDiff, Nat.reduceEqDiff, Nat.reduceLT, ↓reduceIte, List.length_cons, List.length_nil, List.set_cons_zero, List.set_cons_succ, Nat.le_refl, Nat.zero_le, Nat.zero_sub, Nat.sub_zero, List.nil_append, List.cons_append, Option.toList_some, Option.toList_none, eq_self]
      refine hq M1 (h1.to ?_)
      rw [rSil, if_neg (by simp [z]), if_neg c5]
  refine XC.run 60 [71, 88, 114] ?_
  by_cases c1 : s.2 28 c = 0
  · simp only [n111, n113, t111, ↓xh, ↓xst, ↓xrunE, ↓rG, rL, rSt, updA, List.elem_nil, List.elem_cons, Nat.reduceBEq, Bool.false_eq_true, if_false, if_true, true_and, and_true, true_or, or_true, not_false_eq_true, Nat.reduceAdd, Nat.reduceSub, Nat.reduceLeDiff, Nat.reduceEqDiff, Nat.reduceLT, ↓reduceIte, List.length_cons, List.length_nil, List.set_cons_zero, List.set_cons_succ, Nat.le_refl, Nat.zero_le, Nat.zero_sub, Nat.sub_zero, List.nil_append, List.cons_append, Option.toList_some, Option.toList_none, eq_self, ↓rO1 h.1, ↓rB h.1, ic, c1, hA, hi, ii, hB, nI_div8 A hA', nI_div8 B hB', show ¬ (8 : Int32) = 0 by decide]
    refine rc113 h.1 hR hs (by omega) (by omega) hnx ?_
    refine XZ.runH 60 [71, 88, 114] ?_
    by_cases w1 : rWay s R (A / 8) (B / 8) < 0
    · simp only [n111, n113, t111, ↓xh, ↓xst, ↓xrunE, ↓rG, rL, rSt, updA, List.elem_nil, List.elem_cons, Nat.reduceBEq, Bool.false_eq_true, if_false, if_true, true_and, and_true, true_or, or_true, not_false_eq_true, Nat.reduceAdd, Nat.reduceSub, Nat.reduceLeDiff, Nat.reduceEqDiff, Nat.reduceLT, ↓reduceIte, List.length_cons, List.length_nil, List.set_cons_zero, List.set_cons_succ, Nat.le_refl, Nat.zero_le, Nat.zero_sub, Nat.sub_zero, List.nil_append, List.cons_append, Option.toList_some, Option.toList_none, eq_self, lT w1, ↓rO1 h.1, ↓rB h.1, ic, xn0, xbj hb]
      have ev : rSilV s R c = s.2 29 c + 1 := by rw [rSilV, eA, eB, if_pos (Or.inl w1)]
      refine XZ.abs (h.arr 29 _ _ (by decide) (by decide)) (fun M1 h1 => ?_)
      rw [← ev] at h1
      exact rest M1 _ _ rfl c1 h1
    · simp only [n111, n113, t111, ↓xh, ↓xst, ↓xrunE, ↓rG, rL, rSt, updA, List.elem_nil, List.elem_cons, Nat.reduceBEq, Bool.false_eq_true, if_false, if_true, true_and, and_true, true_or, or_true, not_false_eq_true, Nat.reduceAdd, Nat.reduceSub, Nat.reduceLeDiff, Nat.reduceEqDiff, Nat.reduceLT, ↓reduceIte, List.length_cons, List.length_nil, List.set_cons_zero, List.set_cons_succ, Nat.le_refl, Nat.zero_le, Nat.zero_sub, Nat.sub_zero, List.nil_append, List.cons_append, Option.toList_some, Option.toList_none, eq_self, lF w1, ↓rO1 h.1]
      refine rc113 (a := B / 8) (b := A / 8) h.1 hR hs (by omega) (by omega) hnx ?_
      refine XZ.runH 60 [71, 88, 114] ?_
      by_cases w2 : rWay s R (B / 8) (A / 8) < 0
      · simp only [n111, n113, t111, ↓xh, ↓xst, ↓xrunE, ↓rG, rL, rSt, updA, List.elem_nil, List.elem_cons, Nat.reduceBEq, Bool.false_eq_true, if_false, if_true, true_and, and_true, true_or, or_true, not_false_eq_true, Nat.reduceAdd, Nat.reduceSub, Nat.reduceLeDiff, Nat.reduceEqDiff, Nat.reduceLT, ↓reduceIte, List.length_cons, List.length_nil, List.set_cons_zero, List.set_cons_succ, Nat.le_refl, Nat.zero_le, Nat.zero_sub, Nat.sub_zero, List.nil_append, List.cons_append, Option.toList_some, Option.toList_none, eq_self, lT w2, ↓rO1 h.1, ↓rB h.1, ic, xn0, xbj hb]
        have ev : rSilV s R c = s.2 29 c + 1 := by rw [rSilV, eA, eB, if_pos (Or.inr w2)]
        refine XZ.abs (h.arr 29 _ _ (by decide) (by decide)) (fun M1 h1 => ?_)
        rw [← ev] at h1
        exact rest M1 _ _ rfl c1 h1
      · simp only [n111, n113, t111, ↓xh, ↓xst, ↓xrunE, ↓rG, rL, rSt, updA, List.elem_nil, List.elem_cons, Nat.reduceBEq, Bool.false_eq_true, if_false, if_true, true_and, and_true, true_or, or_true, not_false_eq_true, Nat.reduceAdd, Nat.reduceSub, Nat.reduceLeDiff, Nat.reduceEqDiff, Nat.reduceLT, ↓reduceIte, List.length_cons, List.length_nil, List.set_cons_zero, List.set_cons_succ, Nat.le_refl, Nat.zero_le, Nat.zero_sub, Nat.sub_zero, List.nil_append, List.cons_append, Option.toList_some, Option.toList_none, eq_self, lF w2, ↓rO1 h.1, ↓rB h.1, ic, xn0, xbj hb]
        have ev : rSilV s R c = 0 := by rw [rSilV, eA, eB, if_neg (by simp only [w1, w2, or_self, not_false_iff])]
        refine XZ.abs (h.arr 29 _ _ (by decide) (by decide)) (fun M1 h1 => ?_)
        rw [← ev] at h1
        exact rest M1 _ _ rfl c1 h1
  · simp only [n111, t111, ↓xh, ↓xst, ↓xrunE, ↓rG, rL, rSt, updA, List.elem_nil, List.elem_cons, Nat.reduceBEq, Bool.false_eq_true, if_false, if_true, true_and, and_true, true_or, or_true, not_false_eq_true, Nat.reduceAdd, Nat.reduceSub, Nat.reduceLeDiff, Nat.reduceEqDiff, Nat.reduceLT, ↓reduceIte, List.length_cons, List.length_nil, List.set_cons_zero, List.set_cons_succ, Nat.le_refl, Nat.zero_le, Nat.zero_sub, Nat.sub_zero, List.nil_append, List.cons_append, Option.toList_some, Option.toList_none, eq_self, ↓rO1 h.1, ↓rB h.1, ic, c1]
    refine hq M (h.to ?_)
    rw [rSil, if_pos c1]
