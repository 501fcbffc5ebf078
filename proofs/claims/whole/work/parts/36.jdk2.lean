/-- M' is M but for c at a -/
def jN (M M' : xM) (a : Nat) (c : xC) : Prop := M' a = some c ∧ ∀ q, q ≠ a → M' q = M q
theorem jN_put (M : xM) (a : Nat) (c : xC) : jN M (xput M a c) a c := ⟨xput_same _ _ _, fun _ hq => xput_ne hq⟩
def jBy (n : Nat) (f : Nat → Int32) : xC := .inr (1, n, fun k => .int (f k))
theorem rCh_f0 : ∀ n, n < 128 → fits .byte (.int (nI n)) = true := by decide +kernel
theorem rCh_f {x : Int32} (h : rCh x) : fits .byte (.int x) = true := by obtain ⟨n, hn, rfl⟩ := h; exact rCh_f0 n hn
set_option maxRecDepth 100000 in
set_option maxHeartbeats 4000000 in
theorem jc172 {E : xE} {M : xM} {i j nx : Nat} {Q : Option Value → xM → Nat → Prop} (hij : i ≤ j) (hj : j ≤ 64) (hq : Q none M nx) : XC E 172 [.int (nI i), .int (nI j)] M nx Q := by
  refine XC.run 60 [] ?_
  simp only [n172, t172, ↓xh, ↓xst, ↓xrunE, ↓rG, rL, rSt, updA, List.elem_nil, List.elem_cons, Nat.reduceBEq, Bool.false_eq_true, if_false, if_true, true_and, and_true, true_or, or_true, not_false_eq_true, Nat.reduceAdd, Nat.reduceSub, Nat.reduceLeDiff, Nat.reduceEqDiff, Nat.reduceLT, ↓reduceIte, List.length_cons, List.length_nil, List.set_cons_zero, List.set_cons_succ, Nat.le_refl, Nat.zero_le, Nat.zero_sub, Nat.sub_zero, List.nil_append, List.cons_append, Option.toList_some, Option.toList_none, eq_self, nI_le hij (show j < 2 ^ 31 by omega)]
  exact hq
set_option maxRecDepth 100000 in
set_option maxHeartbeats 4000000 in
theorem jc171 {E : xE} {M : xM} {p n i j nx : Nat} {f : Nat → Int32} {Q : Option Value → xM → Nat → Prop} (hx : xb E ≤ nx) (hp : p < nx) (hA : ∀ P, xarr M p P = P 1 n (fun k => .int (f k))) (hn : n ≤ 64) (hij : i ≤ j) (hj : j ≤ n) (hd : j - i ≤ 34) (hf : ∀ k, k < n → rCh (f k)) (hq : ∀ M' g, jN M M' nx (jBy (j - i) g) → (∀ k, k < j - i → g k = f (i + k)) → Q (some (.ref nx)) M' (nx + 1)) : XC E 171 [.ref p, .int (nI i), .int (nI j)] M nx Q := by
  refine XC.run 60 [] ?_
  simp only [n171, n172, t171, ↓xh, ↓xst, ↓xrunE, ↓rG, rL, rSt, updA, List.elem_nil, List.elem_cons, Nat.reduceBEq, Bool.false_eq_true, if_false, if_true, true_and, and_true, true_or, or_true, not_false_eq_true, Nat.reduceAdd, Nat.reduceSub, Nat.reduceLeDiff, Nat.reduceEqDiff, Nat.reduceLT, ↓reduceIte, List.length_cons, List.length_nil, List.set_cons_zero, List.set_cons_succ, Nat.le_refl, Nat.zero_le, Nat.zero_sub, Nat.sub_zero, List.nil_append, List.cons_append, Option.toList_some, Option.toList_none, eq_self]
  refine jc172 hij (by omega) ?_
  have s1 := nI_subn j i hij
  have s2 := nI_subn n i (by omega)
  have p0 := nI_pos (show j - i < 2 ^ 31 by omega)
  have c0 := nI_clamp (show j - i < 2 ^ 31 by omega)
  have i0 := nI_pos (show i < 2 ^ 31 by omega)
  have ci := nI_clamp (show i < 2 ^ 31 by omega)
  have pn : xarr (xput M nx (.inr (1, j - i, fun _ => .int 0))) p = xarr M p := by
    funext P; unfold xarr; rw [xput_ne (by omega)]
  have mn : (if nI (j - i) < nI (n - i) then nI (j - i) else nI (n - i)) = nI (j - i) := by
    by_cases c : j < n
    · rw [if_pos (k2_lt (nI_ge (show j - i < n - i by omega) (by omega)))]
    · rw [if_neg (k2_nlt (nI_le (show n - i ≤ j - i by omega) (by omega))), show n - i = j - i by omega]
  refine XZ.runH 60 [] ?_
  simp only [n171, t171, ↓xh, ↓xst, ↓xrunE, ↓rG, rL, rSt, updA, List.elem_nil, List.elem_cons, Nat.reduceBEq, Bool.false_eq_true, if_false, if_true, true_and, and_true, true_or, or_true, not_false_eq_true, Nat.reduceAdd, Nat.reduceSub, Nat.reduceLeDiff, Nat.reduceEqDiff, Nat.reduceLT, ↓reduceIte, List.length_cons, List.length_nil, List.set_cons_zero, List.set_cons_succ, Nat.le_refl, Nat.zero_le, Nat.zero_sub, Nat.sub_zero, List.nil_append, List.cons_append, Option.toList_some, Option.toList_none, eq_self, s1, p0, c0, ofN]
  have nn : ∀ P, xarr (xput M nx (.inr (1, j - i, fun _ => .int 0))) nx P = P 1 (j - i) (fun _ => .int 0) := fun P => by simp [xarr, xput_same]
  refine ⟨by omega, hd, ?_⟩
  simp only [pn, hA, nn, s2, mn, i0, ci, p0, c0, show Int32.toNatClampNeg 0 = 0 by decide, show ¬ (0 : Int32) < 0 by decide, not_false_iff, true_and]
  refine ⟨hx, by omega, by omega, fun q hq => rCh_f (hf _ (by omega)), ?_⟩
  refine hq _ (fun k => if k < j - i then f (i + k) else 0) ⟨?_, fun q hq => ?_⟩ (fun k hk => if_pos hk)
  · rw [xput_same, jBy]
    congr 4
    funext k
    simp only [va_cpy, Nat.zero_le, true_and, Nat.zero_add, Nat.sub_zero]
    split <;> rfl
  · rw [xput_ne hq, xput_ne hq]
set_option maxRecDepth 100000 in
set_option maxHeartbeats 4000000 in
theorem jc170 {E : xE} {M : xM} {p n i j nx : Nat} {f : Nat → Int32} {Q : Option Value → xM → Nat → Prop} (hx : xb E ≤ nx) (hp : p < nx) (hpb : xb E ≤ p ∨ 0 < i ∨ j < n) (hA : ∀ P, xarr M p P = P 1 n (fun k => .int (f k))) (hn : n ≤ 64) (hij : i ≤ j) (hj : j ≤ n) (hd : j - i ≤ 34) (hf : ∀ k, k < n → rCh (f k)) (hq : ∀ M' g, jN M M' nx (jBy (j - i) g) → (∀ k, k < j - i → g k = f (i + k)) → Q (some (.ref nx)) M' (nx + 1)) : XC E 170 [.ref p, .int (nI i), .int (nI j)] M nx Q := by
  have go : XC E 171 [.ref p, .int (nI i), .int (nI j)] M nx (fun v M' nx' => XZ E 170 (xZ E 170 Q) 16 [some (.ref p), some (.int (nI i)), some (.int (nI j))] (v.toList ++ []) M' nx' 0 0) := by
    refine jc171 hx hp hA hn hij hj hd hf (fun M1 g h1 h2 => ?_)
    refine XZ.runH 60 [] ?_
    simp only [n170, t170, ↓xh, ↓xst, ↓xrunE, ↓rG, rL, rSt, updA, List.elem_nil, List.elem_cons, Nat.reduceBEq, Bool.false_eq_true, if_false, if_true, true_and, and_true, true_or, or_true, not_false_eq_true, Nat.reduceAdd, Nat.reduceSub, Nat.reduceLeDiff, Nat.reduceEqDiff, Nat.reduceLT, ↓reduceIte, List.length_cons, List.length_nil, List.set_cons_zero, List.set_cons_succ, Nat.le_refl, Nat.zero_le, Nat.zero_sub, Nat.sub_zero, List.nil_append, List.cons_append, Option.toList_some, Option.toList_none, eq_self]
    exact hq M1 g h1 h2
  refine XC.run 60 [] ?_
  by_cases c1 : i = 0
  · subst c1
    by_cases c2 : j = n
    · subst c2
      have hpb' : xb E ≤ p := by omega
      have pn : xarr (xput M nx (.inr (1, j, fun k => .int (f k)))) p = xarr M p := by
        funext P; unfold xarr; rw [xput_ne (by omega)]
      have fi : ∀ q, q < j → fits .byte (.int (f q)) = true := fun q hq => rCh_f (hf q hq)
      simp only [n170, t170, ↓xh, ↓xst, ↓xrunE, ↓rG, rL, rSt, updA, List.elem_nil, List.elem_cons, Nat.reduceBEq, Bool.false_eq_true, if_false, if_true, true_and, and_true, true_or, or_true, not_false_eq_true, Nat.reduceAdd, Nat.reduceSub, Nat.reduceLeDiff, Nat.reduceEqDiff, Nat.reduceLT, ↓reduceIte, List.length_cons, List.length_nil, List.set_cons_zero, List.set_cons_succ, Nat.le_refl, Nat.zero_le, Nat.zero_sub, Nat.sub_zero, List.nil_append, List.cons_append, Option.toList_some, Option.toList_none, eq_self, show nI 0 = 0 by decide, ↓hA, ofN, hpb']
      have nn : ∀ P, xarr (xput M nx (.inr (1, j, fun k => .int (f k)))) nx P = P 1 j (fun k => .int (f k)) := fun P => by simp [xarr, xput_same]
      refine ⟨by omega, fi, hx, ?_⟩
      rw [nn]
      exact ⟨rfl, hq _ f (jN_put _ _ _) (fun k _ => by rw [Nat.zero_add])⟩
    · have z : ¬ nI j = nI n := fun z => c2 (nI_inj (by omega) (by omega) z)
      simp only [n170, n171, t170, ↓xh, ↓xst, ↓xrunE, ↓rG, rL, rSt, updA, List.elem_nil, List.elem_cons, Nat.reduceBEq, Bool.false_eq_true, if_false, if_true, true_and, and_true, true_or, or_true, not_false_eq_true, Nat.reduceAdd, Nat.reduceSub, Nat.reduceLeDiff, Nat.reduceEqDiff, Nat.reduceLT, ↓reduceIte, List.length_cons, List.length_nil, List.set_cons_zero, List.set_cons_succ, Nat.le_refl, Nat.zero_le, Nat.zero_sub, Nat.sub_zero, List.nil_append, List.cons_append, Option.toList_some, Option.toList_none, eq_self, show nI 0 = 0 by decide, ↓hA, ofN, z]
      exact go
  · have z : ¬ nI i = 0 := fun z => c1 (nI_inj (b := 0) (by omega) (by omega) z)
    simp only [n170, n171, t170, ↓xh, ↓xst, ↓xrunE, ↓rG, rL, rSt, updA, List.elem_nil, List.elem_cons, Nat.reduceBEq, Bool.false_eq_true, if_false, if_true, true_and, and_true, true_or, or_true, not_false_eq_true, Nat.reduceAdd, Nat.reduceSub, Nat.reduceLeDiff, Nat.reduceEqDiff, Nat.reduceLT, ↓reduceIte, List.length_cons, List.length_nil, List.set_cons_zero, List.set_cons_succ, Nat.le_refl, Nat.zero_le, Nat.zero_sub, Nat.sub_zero, List.nil_append, List.cons_append, Option.toList_some, Option.toList_none, eq_self, z]
    exact go
set_option maxRecDepth 100000 in
set_option maxHeartbeats 4000000 in
theorem jc155 {E : xE} {M : xM} {a p nx : Nat} {v0 v1 : Value} {Q : Option Value → xM → Nat → Prop} (hb : xb E ≤ a) (h : M a = some (.inl (4, [v0, v1]))) (hq : ∀ M', jN M M' a (.inl (4, [.ref p, .int 0])) → Q none M' nx) : XC E 155 [.ref a, .ref p, .int 0] M nx Q := by
  have o1 : ∀ P, xobj M a 4 P = P [v0, v1] := fun P => by simp [xobj, h]
  have o2 : ∀ c P, xobj (xput M a (.inl (4, c))) a 4 P = P c := fun c P => by simp [xobj, xput_same]
  refine XC.run 60 [] ?_
  simp only [n155, t155, ↓xh, ↓xst, ↓xrunE, ↓rG, rL, rSt, updA, List.elem_nil, List.elem_cons, Nat.reduceBEq, Bool.false_eq_true, if_false, if_true, true_and, and_true, true_or, or_true, not_false_eq_true, Nat.reduceAdd, Nat.reduceSub, Nat.reduceLeDiff, Nat.reduceEqDiff, Nat.reduceLT, ↓reduceIte, List.length_cons, List.length_nil, List.set_cons_zero, List.set_cons_succ, Nat.le_refl, Nat.zero_le, Nat.zero_sub, Nat.sub_zero, List.nil_append, List.cons_append, Option.toList_some, Option.toList_none, eq_self, ↓o1, ↓o2, hb, show (Int32.toInt8 0).toInt32 = 0 by decide]
  refine hq _ ⟨xput_same _ _ _, fun q hq => ?_⟩
  rw [xput_ne hq, xput_ne hq]
theorem jxd4 : xdef 4 = [.null, .int 0] := by decide +kernel
set_option maxRecDepth 100000 in
set_option maxHeartbeats 4000000 in
theorem jc163 {E : xE} {M : xM} {p n i len nx : Nat} {f : Nat → Int32} {Q : Option Value → xM → Nat → Prop} (hx : xb E ≤ nx) (hp : p < nx) (hpb : xb E ≤ p ∨ 0 < i ∨ i + len < n) (hA : ∀ P, xarr M p P = P 1 n (fun k => .int (f k))) (hn : n ≤ 64) (hj : i + len ≤ n) (hd : len ≤ 34) (hf : ∀ k, k < n → rCh (f k))
    (hq0 : len = 0 → Q (some (.ref (E.2.2.2 1))) M nx) (hq1 : 0 < len → ∀ M' g, M' nx = some (.inl (4, [.ref (nx + 1), .int 0])) → M' (nx + 1) = some (jBy len g) → (∀ k, k < len → g k = f (i + k)) → (∀ q, q ≠ nx → q ≠ nx + 1 → M' q = M q) → Q (some (.ref nx)) M' (nx + 2)) : XC E 163 [.ref p, .int (nI i), .int (nI len)] M nx Q := by
  refine XC.run 60 [] ?_
  by_cases c : len = 0
  · subst c
    simp only [n163, t163, ↓xh, ↓xst, ↓xrunE, ↓rG, rL, rSt, updA, List.elem_nil, List.elem_cons, Nat.reduceBEq, Bool.false_eq_true, if_false, if_true, true_and, and_true, true_or, or_true, not_false_eq_true, Nat.reduceAdd, Nat.reduceSub, Nat.reduceLeDiff, Nat.reduceEqDiff, Nat.reduceLT, ↓reduceIte, List.length_cons, List.length_nil, List.set_cons_zero, List.set_cons_succ, Nat.le_refl, Nat.zero_le, Nat.zero_sub, Nat.sub_zero, List.nil_append, List.cons_append, Option.toList_some, Option.toList_none, eq_self, show nI 0 = 0 by decide]
    exact hq0 rfl
  · have z : ¬ nI len = 0 := fun z => c (nI_inj (b := 0) (by omega) (by omega) z)
    simp only [n163, n170, t163, ↓xh, ↓xst, ↓xrunE, ↓rG, rL, rSt, updA, List.elem_nil, List.elem_cons, Nat.reduceBEq, Bool.false_eq_true, if_false, if_true, true_and, and_true, true_or, or_true, not_false_eq_true, Nat.reduceAdd, Nat.reduceSub, Nat.reduceLeDiff, Nat.reduceEqDiff, Nat.reduceLT, ↓reduceIte, List.length_cons, List.length_nil, List.set_cons_zero, List.set_cons_succ, Nat.le_refl, Nat.zero_le, Nat.zero_sub, Nat.sub_zero, List.nil_append, List.cons_append, Option.toList_some, Option.toList_none, eq_self, z, nI_add, jxd4, Nat.reduceSub, Nat.reduceLeDiff]
    have hA' : ∀ P, xarr (xput M nx (.inl (4, [.null, .int 0]))) p P = P 1 n (fun k => .int (f k)) := fun P => (show xarr (xput M nx (.inl (4, [.null, .int 0]))) p P = xarr M p P by unfold xarr; rw [xput_ne (by omega)]).trans (hA P)
    refine jc170 (nx := nx + 1) (by omega) (by omega) hpb hA' hn (by omega) hj (by omega) hf (fun M1 g h1 h2 => ?_)
    rw [Nat.add_sub_cancel_left] at h1 h2
    refine XZ.runH 60 [] ?_
    simp only [n163, n155, t163, ↓xh, ↓xst, ↓xrunE, ↓rG, rL, rSt, updA, List.elem_nil, List.elem_cons, Nat.reduceBEq, Bool.false_eq_true, if_false, if_true, true_and, and_true, true_or, or_true, not_false_eq_true, Nat.reduceAdd, Nat.reduceSub, Nat.reduceLeDiff, Nat.reduceEqDiff, Nat.reduceLT, ↓reduceIte, List.length_cons, List.length_nil, List.set_cons_zero, List.set_cons_succ, Nat.le_refl, Nat.zero_le, Nat.zero_sub, Nat.sub_zero, List.nil_append, List.cons_append, Option.toList_some, Option.toList_none, eq_self]
    refine jc155 hx (by rw [h1.2 nx (by omega)]; exact xput_same _ _ _) (fun M2 h3 => ?_)
    refine XZ.runH 60 [] ?_
    simp only [n163, t163, ↓xh, ↓xst, ↓xrunE, ↓rG, rL, rSt, updA, List.elem_nil, List.elem_cons, Nat.reduceBEq, Bool.false_eq_true, if_false, if_true, true_and, and_true, true_or, or_true, not_false_eq_true, Nat.reduceAdd, Nat.reduceSub, Nat.reduceLeDiff, Nat.reduceEqDiff, Nat.reduceLT, ↓reduceIte, List.length_cons, List.length_nil, List.set_cons_zero, List.set_cons_succ, Nat.le_refl, Nat.zero_le, Nat.zero_sub, Nat.sub_zero, List.nil_append, List.cons_append, Option.toList_some, Option.toList_none, eq_self]
    refine hq1 (by omega) M2 g h3.1 (by rw [h3.2 (nx + 1) (by omega)]; exact h1.1) h2 (fun q e1 e2 => ?_)
    rw [h3.2 q e1, h1.2 q e2, xput_ne e1]
/-- what was there before nx is there still -/
def jG (M M' : xM) (nx nx' : Nat) : Prop := nx ≤ nx' ∧ ∀ q, q < nx → M' q = M q
set_option maxRecDepth 100000 in
set_option maxHeartbeats 4000000 in
theorem jc144 {E : xE} {M : xM} {a p n i j nx pe : Nat} {f fe : Nat → Int32} {Q : Option Value → xM → Nat → Prop} (hx : xb E ≤ nx) (hp : p < nx) (h : jS M a p n f) (he : jS M (E.2.2.2 1) pe 0 fe) (hij : i ≤ j) (hj : j ≤ n) (hd : j - i ≤ 34)
    (hq : ∀ b q g M' nx', jS M' b q (j - i) g → (∀ k, k < j - i → g k = f (i + k)) → jG M M' nx nx' → nx' ≤ nx + 2 → Q (some (.ref b)) M' nx') : XC E 144 [.ref a, .int (nI i), .int (nI j)] M nx Q := by
  have hn := h.2.2.1
  refine XC.run 60 [] ?_
  simp only [n144, n148, t144, ↓xh, ↓xst, ↓xrunE, ↓rG, rL, rSt, updA, List.elem_nil, List.elem_cons, Nat.reduceBEq, Bool.false_eq_true, if_false, if_true, true_and, and_true, true_or, or_true, not_false_eq_true, Nat.reduceAdd, Nat.reduceSub, Nat.reduceLeDiff, Nat.reduceEqDiff, Nat.reduceLT, ↓reduceIte, List.length_cons, List.length_nil, List.set_cons_zero, List.set_cons_succ, Nat.le_refl, Nat.zero_le, Nat.zero_sub, Nat.sub_zero, List.nil_append, List.cons_append, Option.toList_some, Option.toList_none, eq_self, ↓jO h]
  refine jc148 h ?_
  refine XZ.runH 60 [] ?_
  simp only [n144, n151, t144, ↓xh, ↓xst, ↓xrunE, ↓rG, rL, rSt, updA, List.elem_nil, List.elem_cons, Nat.reduceBEq, Bool.false_eq_true, if_false, if_true, true_and, and_true, true_or, or_true, not_false_eq_true, Nat.reduceAdd, Nat.reduceSub, Nat.reduceLeDiff, Nat.reduceEqDiff, Nat.reduceLT, ↓reduceIte, List.length_cons, List.length_nil, List.set_cons_zero, List.set_cons_succ, Nat.le_refl, Nat.zero_le, Nat.zero_sub, Nat.sub_zero, List.nil_append, List.cons_append, Option.toList_some, Option.toList_none, eq_self]
  refine jc151 hij hj (by omega) ?_
  have go : ¬ (i = 0 ∧ j = n) → XZ E 144 (xZ E 144 Q) 22 [some (.ref a), some (.int (nI i)), some (.int (nI j)), some (.int (nI n)), none] [] M nx 2 38 := by
    intro c
    refine XZ.runH 60 [] ?_
    simp only [n144, n152, t144, ↓xh, ↓xst, ↓xrunE, ↓rG, rL, rSt, updA, List.elem_nil, List.elem_cons, Nat.reduceBEq, Bool.false_eq_true, if_false, if_true, true_and, and_true, true_or, or_true, not_false_eq_true, Nat.reduceAdd, Nat.reduceSub, Nat.reduceLeDiff, Nat.reduceEqDiff, Nat.reduceLT, ↓reduceIte, List.length_cons, List.length_nil, List.set_cons_zero, List.set_cons_succ, Nat.le_refl, Nat.zero_le, Nat.zero_sub, Nat.sub_zero, List.nil_append, List.cons_append, Option.toList_some, Option.toList_none, eq_self, nI_subn j i hij, ↓jO h]
    refine jc152 h ?_
    refine XZ.runH 60 [] ?_
    simp only [n144, n163, t144, ↓xh, ↓xst, ↓xrunE, ↓rG, rL, rSt, updA, List.elem_nil, List.elem_cons, Nat.reduceBEq, Bool.false_eq_true, if_false, if_true, true_and, and_true, true_or, or_true, not_false_eq_true, Nat.reduceAdd, Nat.reduceSub, Nat.reduceLeDiff, Nat.reduceEqDiff, Nat.reduceLT, ↓reduceIte, List.length_cons, List.length_nil, List.set_cons_zero, List.set_cons_succ, Nat.le_refl, Nat.zero_le, Nat.zero_sub, Nat.sub_zero, List.nil_append, List.cons_append, Option.toList_some, Option.toList_none, eq_self, show ¬ (1 : Int32) = 0 by decide, ↓jO h]
    refine jc163 hx hp (by omega) (jA h) hn (by omega) hd h.2.2.2 (fun z => ?_) (fun z M' g h1 h2 h3 h4 => ?_)
    · refine XZ.runH 60 [] ?_
      simp only [n144, t144, ↓xh, ↓xst, ↓xrunE, ↓rG, rL, rSt, updA, List.elem_nil, List.elem_cons, Nat.reduceBEq, Bool.false_eq_true, if_false, if_true, true_and, and_true, true_or, or_true, not_false_eq_true, Nat.reduceAdd, Nat.reduceSub, Nat.reduceLeDiff, Nat.reduceEqDiff, Nat.reduceLT, ↓reduceIte, List.length_cons, List.length_nil, List.set_cons_zero, List.set_cons_succ, Nat.le_refl, Nat.zero_le, Nat.zero_sub, Nat.sub_zero, List.nil_append, List.cons_append, Option.toList_some, Option.toList_none, eq_self]
      refine hq _ pe fe M nx (by rw [z]; exact he) (fun k hk => by omega) ⟨Nat.le_refl _, fun _ _ => rfl⟩ (by omega)
    · refine XZ.runH 60 [] ?_
      simp only [n144, t144, ↓xh, ↓xst, ↓xrunE, ↓rG, rL, rSt, updA, List.elem_nil, List.elem_cons, Nat.reduceBEq, Bool.false_eq_true, if_false, if_true, true_and, and_true, true_or, or_true, not_false_eq_true, Nat.reduceAdd, Nat.reduceSub, Nat.reduceLeDiff, Nat.reduceEqDiff, Nat.reduceLT, ↓reduceIte, List.length_cons, List.length_nil, List.set_cons_zero, List.set_cons_succ, Nat.le_refl, Nat.zero_le, Nat.zero_sub, Nat.sub_zero, List.nil_append, List.cons_append, Option.toList_some, Option.toList_none, eq_self]
      refine hq nx (nx + 1) g M' (nx + 2) ⟨h1, h2, by omega, fun k hk => ?_⟩ h3 ⟨by omega, fun q hq => h4 q (by omega) (by omega)⟩ (by omega)
      rw [h3 k hk]; exact h.2.2.2 _ (by omega)
  refine XZ.runH 60 [22] ?_
  by_cases c1 : i = 0
  · subst c1
    by_cases c2 : j = n
    · subst c2
      simp only [n144, t144, ↓xh, ↓xst, ↓xrunE, ↓rG, rL, rSt, updA, List.elem_nil, List.elem_cons, Nat.reduceBEq, Bool.false_eq_true, if_false, if_true, true_and, and_true, true_or, or_true, not_false_eq_true, Nat.reduceAdd, Nat.reduceSub, Nat.reduceLeDiff, Nat.reduceEqDiff, Nat.reduceLT, ↓reduceIte, List.length_cons, List.length_nil, List.set_cons_zero, List.set_cons_succ, Nat.le_refl, Nat.zero_le, Nat.zero_sub, Nat.sub_zero, List.nil_append, List.cons_append, Option.toList_some, Option.toList_none, eq_self, show nI 0 = 0 by decide]
      exact hq a p f M nx h (fun k _ => by rw [Nat.zero_add]) ⟨Nat.le_refl _, fun _ _ => rfl⟩ (by omega)
    · have z : ¬ nI j = nI n := fun z => c2 (nI_inj (by omega) (by omega) z)
      simp only [n144, t144, ↓xh, ↓xst, ↓xrunE, ↓rG, rL, rSt, updA, List.elem_nil, List.elem_cons, Nat.reduceBEq, Bool.false_eq_true, if_false, if_true, true_and, and_true, true_or, or_true, not_false_eq_true, Nat.reduceAdd, Nat.reduceSub, Nat.reduceLeDiff, Nat.reduceEqDiff, Nat.reduceLT, ↓reduceIte, List.length_cons, List.length_nil, List.set_cons_zero, List.set_cons_succ, Nat.le_refl, Nat.zero_le, Nat.zero_sub, Nat.sub_zero, List.nil_append, List.cons_append, Option.toList_some, Option.toList_none, eq_self, show nI 0 = 0 by decide, z]
      exact go (fun y => c2 y.2)
  · have z : ¬ nI i = 0 := fun z => c1 (nI_inj (b := 0) (by omega) (by omega) z)
    simp only [n144, t144, ↓xh, ↓xst, ↓xrunE, ↓rG, rL, rSt, updA, List.elem_nil, List.elem_cons, Nat.reduceBEq, Bool.false_eq_true, if_false, if_true, true_and, and_true, true_or, or_true, not_false_eq_true, Nat.reduceAdd, Nat.reduceSub, Nat.reduceLeDiff, Nat.reduceEqDiff, Nat.reduceLT, ↓reduceIte, List.length_cons, List.length_nil, List.set_cons_zero, List.set_cons_succ, Nat.le_refl, Nat.zero_le, Nat.zero_sub, Nat.sub_zero, List.nil_append, List.cons_append, Option.toList_some, Option.toList_none, eq_self, z]
    exact go (fun y => c1 y.1)
set_option maxRecDepth 100000 in
set_option maxHeartbeats 4000000 in
theorem jc145 {E : xE} {M : xM} {a p n i nx pe : Nat} {f fe : Nat → Int32} {Q : Option Value → xM → Nat → Prop} (hx : xb E ≤ nx) (hp : p < nx) (h : jS M a p n f) (he : jS M (E.2.2.2 1) pe 0 fe) (hij : i ≤ n) (hd : n - i ≤ 34)
    (hq : ∀ b q g M' nx', jS M' b q (n - i) g → (∀ k, k < n - i → g k = f (i + k)) → jG M M' nx nx' → nx' ≤ nx + 2 → Q (some (.ref b)) M' nx') : XC E 145 [.ref a, .int (nI i)] M nx Q := by
  refine XC.run 60 [] ?_
  simp only [n145, n148, t145, ↓xh, ↓xst, ↓xrunE, ↓rG, rL, rSt, updA, List.elem_nil, List.elem_cons, Nat.reduceBEq, Bool.false_eq_true, if_false, if_true, true_and, and_true, true_or, or_true, not_false_eq_true, Nat.reduceAdd, Nat.reduceSub, Nat.reduceLeDiff, Nat.reduceEqDiff, Nat.reduceLT, ↓reduceIte, List.length_cons, List.length_nil, List.set_cons_zero, List.set_cons_succ, Nat.le_refl, Nat.zero_le, Nat.zero_sub, Nat.sub_zero, List.nil_append, List.cons_append, Option.toList_some, Option.toList_none, eq_self, ↓jO h]
  refine jc148 h ?_
  refine XZ.runH 60 [] ?_
  simp only [n145, n144, t145, ↓xh, ↓xst, ↓xrunE, ↓rG, rL, rSt, updA, List.elem_nil, List.elem_cons, Nat.reduceBEq, Bool.false_eq_true, if_false, if_true, true_and, and_true, true_or, or_true, not_false_eq_true, Nat.reduceAdd, Nat.reduceSub, Nat.reduceLeDiff, Nat.reduceEqDiff, Nat.reduceLT, ↓reduceIte, List.length_cons, List.length_nil, List.set_cons_zero, List.set_cons_succ, Nat.le_refl, Nat.zero_le, Nat.zero_sub, Nat.sub_zero, List.nil_append, List.cons_append, Option.toList_some, Option.toList_none, eq_self, ↓jO h]
  refine jc144 hx hp h he hij (Nat.le_refl n) hd (fun b q g M' nx' h1 h2 h3 h4 => ?_)
  refine XZ.runH 60 [] ?_
  simp only [n145, t145, ↓xh, ↓xst, ↓xrunE, ↓rG, rL, rSt, updA, List.elem_nil, List.elem_cons, Nat.reduceBEq, Bool.false_eq_true, if_false, if_true, true_and, and_true, true_or, or_true, not_false_eq_true, Nat.reduceAdd, Nat.reduceSub, Nat.reduceLeDiff, Nat.reduceEqDiff, Nat.reduceLT, ↓reduceIte, List.length_cons, List.length_nil, List.set_cons_zero, List.set_cons_succ, Nat.le_refl, Nat.zero_le, Nat.zero_sub, Nat.sub_zero, List.nil_append, List.cons_append, Option.toList_some, Option.toList_none, eq_self]
  exact hq b q g M' nx' h1 h2 h3 h4
