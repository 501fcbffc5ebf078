theorem sub_le0 : ∀ c, c < 35 → ∀ d, d < 35 → c ≤ d → nI c - nI d ≤ 0 := by decide +kernel
set_option maxRecDepth 100000 in
set_option maxHeartbeats 4000000 in
theorem jc169 {E : xE} {M : xM} {p nx : Nat} {f : Nat → Int32} {Q : Option Value → xM → Nat → Prop} (hx : xb E ≤ nx) (hp : p < nx) (hA : ∀ P, xarr M p P = P 1 16 (fun k => .int (f k))) (hf : ∀ k, k < 16 → rCh (f k)) (hq : ∀ M', jN M M' nx (jBy 34 (fun k => if k < 16 then f k else 0)) → Q (some (.ref nx)) M' (nx + 1)) : XC E 169 [.ref p, .int 34] M nx Q := by
  have pn : ∀ P, xarr (xput M nx (.inr (1, 34, fun _ => .int 0))) p P = P 1 16 (fun k => .int (f k)) := fun P => (show xarr (xput M nx (.inr (1, 34, fun _ => .int 0))) p P = xarr M p P by unfold xarr; rw [xput_ne (by omega)]).trans (hA P)
  have nn : ∀ P, xarr (xput M nx (.inr (1, 34, fun _ => .int 0))) nx P = P 1 34 (fun _ => .int 0) := fun P => by simp [xarr, xput_same]
  have z1 : ¬ (34 : Int32) = 16 := by decide
  have z2 : Int32.ofNat 16 = 16 := by decide
  have z3 : ¬ (34 : Int32) < 16 := by decide
  have z4 : Int32.toNatClampNeg 34 = 34 := by decide
  have z5 : ¬ (34 : Int32) < 0 := by decide
  have z6 : Int32.toNatClampNeg 16 = 16 := by decide
  have z7 : Int32.toNatClampNeg 0 = 0 := by decide
  have z8 : ¬ (0 : Int32) < 0 := by decide
  have z9 : ¬ (16 : Int32) < 0 := by decide
  refine XC.run 60 [] ?_
  simp only [n169, t169, ↓xh, ↓xst, ↓xrunE, ↓rG, rL, rSt, updA, List.elem_nil, List.elem_cons, Nat.reduceBEq, Bool.false_eq_true, if_false, if_true, true_and, and_true, true_or, or_true, not_false_eq_true, Nat.reduceAdd, Nat.reduceSub, Nat.reduceLeDiff, Nat.reduceEqDiff, Nat.reduceLT, ↓reduceIte, List.length_cons, List.length_nil, List.set_cons_zero, List.set_cons_succ, Nat.le_refl, Nat.zero_le, Nat.zero_sub, Nat.sub_zero, List.nil_append, List.cons_append, Option.toList_some, Option.toList_none, eq_self, ↓hA, ↓pn, ↓nn, z1, z2, z3, z4, z5, z6, z7, z8, z9, hx, Nat.reduceLeDiff]
  refine ⟨fun q hq => rCh_f (hf _ (by omega)), ?_⟩
  refine hq _ ⟨?_, fun q hq => ?_⟩
  · rw [xput_same, jBy]
    congr 4
    funext k
    simp only [va_cpy, Nat.zero_le, true_and, Nat.zero_add, Nat.sub_zero]
    split <;> rfl
  · rw [xput_ne hq, xput_ne hq]
set_option maxRecDepth 100000 in
set_option maxHeartbeats 4000000 in
theorem jc134 {E : xE} {M : xM} {b p cap cnt c nx : Nat} {f : Nat → Int32} {Q : Option Value → xM → Nat → Prop} (hx : xb E ≤ nx) (hb : xb E ≤ b) (hbn : b < nx) (hp : p < nx) (h : jT M b p cap cnt f) (hc : c ≤ cap ∨ c = 17)
    (hq0 : c ≤ cap → Q none M nx) (hq1 : cap = 16 → c = 17 → ∀ M', jT M' b nx 34 cnt (fun k => if k < 16 then f k else 0) → (∀ q, q < nx → q ≠ b → M' q = M q) → Q none M' (nx + 1)) : XC E 134 [.ref b, .int (nI c)] M nx Q := by
  obtain ⟨⟨ml, hml, ho⟩, h2, h3, h4, h5⟩ := id h
  refine XC.run 60 [] ?_
  by_cases g : c ≤ cap
  · have z : nI c - nI cap ≤ 0 := sub_le0 c (by omega) cap (by omega) g
    simp only [n134, t134, ↓xh, ↓xst, ↓xrunE, ↓rG, rL, rSt, updA, List.elem_nil, List.elem_cons, Nat.reduceBEq, Bool.false_eq_true, if_false, if_true, true_and, and_true, true_or, or_true, not_false_eq_true, Nat.reduceAdd, Nat.reduceSub, Nat.reduceLeDiff, Nat.reduceEqDiff, Nat.reduceLT, ↓reduceIte, List.length_cons, List.length_nil, List.set_cons_zero, List.set_cons_succ, Nat.le_refl, Nat.zero_le, Nat.zero_sub, Nat.sub_zero, List.nil_append, List.cons_append, Option.toList_some, Option.toList_none, eq_self, ↓jOb ho, ↓jTA h, ofN, shr0, z]
    exact hq0 g
  · obtain rfl : c = 17 := by omega
    obtain rfl : cap = 16 := by omega
    have z : ¬ nI 17 - nI 16 ≤ 0 := by decide
    have z17 : nI 17 = 17 := by decide
    simp only [n134, n137, t134, ↓xh, ↓xst, ↓xrunE, ↓rG, rL, rSt, updA, List.elem_nil, List.elem_cons, Nat.reduceBEq, Bool.false_eq_true, if_false, if_true, true_and, and_true, true_or, or_true, not_false_eq_true, Nat.reduceAdd, Nat.reduceSub, Nat.reduceLeDiff, Nat.reduceEqDiff, Nat.reduceLT, ↓reduceIte, List.length_cons, List.length_nil, List.set_cons_zero, List.set_cons_succ, Nat.le_refl, Nat.zero_le, Nat.zero_sub, Nat.sub_zero, List.nil_append, List.cons_append, Option.toList_some, Option.toList_none, eq_self, ↓jOb ho, ↓jTA h, ofN, shr0, z]
    rw [z17]
    refine jc137 h ?_
    refine XZ.runH 60 [] ?_
    simp only [n134, n169, t134, ↓xh, ↓xst, ↓xrunE, ↓rG, rL, rSt, updA, List.elem_nil, List.elem_cons, Nat.reduceBEq, Bool.false_eq_true, if_false, if_true, true_and, and_true, true_or, or_true, not_false_eq_true, Nat.reduceAdd, Nat.reduceSub, Nat.reduceLeDiff, Nat.reduceEqDiff, Nat.reduceLT, ↓reduceIte, List.length_cons, List.length_nil, List.set_cons_zero, List.set_cons_succ, Nat.le_refl, Nat.zero_le, Nat.zero_sub, Nat.sub_zero, List.nil_append, List.cons_append, Option.toList_some, Option.toList_none, eq_self, ↓jOb ho, show (34 : Int32) <<< ((0 : Int32) &&& 31) = 34 by decide]
    refine jc169 hx hp (jTA h) h5 (fun M1 h1 => ?_)
    have ho1 : M1 b = some (.inl (1, [.ref p, .int 0, .int ml, .int (nI cnt)])) := by rw [h1.2 b (by omega)]; exact ho
    refine XZ.runH 60 [] ?_
    simp only [n134, t134, ↓xh, ↓xst, ↓xrunE, ↓rG, rL, rSt, updA, List.elem_nil, List.elem_cons, Nat.reduceBEq, Bool.false_eq_true, if_false, if_true, true_and, and_true, true_or, or_true, not_false_eq_true, Nat.reduceAdd, Nat.reduceSub, Nat.reduceLeDiff, Nat.reduceEqDiff, Nat.reduceLT, ↓reduceIte, List.length_cons, List.length_nil, List.set_cons_zero, List.set_cons_succ, Nat.le_refl, Nat.zero_le, Nat.zero_sub, Nat.sub_zero, List.nil_append, List.cons_append, Option.toList_some, Option.toList_none, eq_self, ↓jOb ho1, hb]
    refine hq1 rfl rfl _ ⟨⟨ml, hml, xput_same _ _ _⟩, ?_, Or.inr rfl, by omega, fun k hk => ?_⟩ (fun q e1 e2 => ?_)
    · rw [xput_ne (by omega)]; exact h1.1
    · dsimp only
      split
      · exact h5 k (by omega)
      · exact ⟨0, by decide, by decide⟩
    · rw [xput_ne e2, h1.2 q (by omega)]
