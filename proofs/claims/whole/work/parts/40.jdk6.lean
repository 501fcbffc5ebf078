set_option maxRecDepth 100000 in
set_option maxHeartbeats 4000000 in
theorem jc136 {E : xE} {M : xM} {b p cap cnt nx : Nat} {f : Nat → Int32} {Q : Option Value → xM → Nat → Prop} (hn : xb E ≤ nx) (hb : xb E ≤ b) (hbn : b < nx) (hp : p < nx) (h : jT M b p cap cnt f) (hq : ∀ M', jT M' b p cap 0 f → (∀ q, q ≠ b → M' q = M q) → Q none M' nx) : XC E 136 [.ref b, .int 0] M nx Q := by
  obtain ⟨⟨ml, hml, ho⟩, h2, h3, h4, h5⟩ := id h
  have ne : p ≠ b := fun z => by rw [z, ho] at h2; cases h2
  have o2 : ∀ c P, xobj (xput M b (.inl (1, c))) b 1 P = P c := fun c P => by simp [xobj, xput_same]
  have c0 : ¬ nI cnt < 0 := nI_pos (by omega)
  refine XC.run 60 [] ?_
  simp only [n136, n134, t136, ↓xh, ↓xst, ↓xrunE, ↓rG, rL, rSt, updA, List.elem_nil, List.elem_cons, Nat.reduceBEq, Bool.false_eq_true, if_false, if_true, true_and, and_true, true_or, or_true, not_false_eq_true, Nat.reduceAdd, Nat.reduceSub, Nat.reduceLeDiff, Nat.reduceEqDiff, Nat.reduceLT, ↓reduceIte, List.length_cons, List.length_nil, List.set_cons_zero, List.set_cons_succ, Nat.le_refl, Nat.zero_le, Nat.zero_sub, Nat.sub_zero, List.nil_append, List.cons_append, Option.toList_some, Option.toList_none, eq_self, show ¬ (0 : Int32) < 0 by decide, show (0 : Int32) ≤ 0 by decide, ↓jOb ho]
  refine jc134 (c := 0) hn hb hbn hp h (by omega) (fun _ => ?_) (fun _ z => by omega)
  refine XZ.runH 60 [] ?_
  by_cases z : cnt = 0
  · subst z
    simp only [n136, t136, ↓xh, ↓xst, ↓xrunE, ↓rG, rL, rSt, updA, List.elem_nil, List.elem_cons, Nat.reduceBEq, Bool.false_eq_true, if_false, if_true, true_and, and_true, true_or, or_true, not_false_eq_true, Nat.reduceAdd, Nat.reduceSub, Nat.reduceLeDiff, Nat.reduceEqDiff, Nat.reduceLT, ↓reduceIte, List.length_cons, List.length_nil, List.set_cons_zero, List.set_cons_succ, Nat.le_refl, Nat.zero_le, Nat.zero_sub, Nat.sub_zero, List.nil_append, List.cons_append, Option.toList_some, Option.toList_none, eq_self, ↓jOb ho, ↓o2, hb, show nI 0 = 0 by decide, show (0 : Int32) ≤ 0 by decide, show ¬ (0 : Int32) < 0 by decide]
    refine hq _ ⟨⟨ml, hml, xput_same _ _ _⟩, ?_, h3, by omega, h5⟩ (fun q e => xput_ne e)
    rw [xput_ne ne]; exact h2
  · have z1 : ¬ nI cnt ≤ 0 := nI_ge (a := 0) (show 0 < cnt by omega) (by omega)
    simp only [n136, t136, ↓xh, ↓xst, ↓xrunE, ↓rG, rL, rSt, updA, List.elem_nil, List.elem_cons, Nat.reduceBEq, Bool.false_eq_true, if_false, if_true, true_and, and_true, true_or, or_true, not_false_eq_true, Nat.reduceAdd, Nat.reduceSub, Nat.reduceLeDiff, Nat.reduceEqDiff, Nat.reduceLT, ↓reduceIte, List.length_cons, List.length_nil, List.set_cons_zero, List.set_cons_succ, Nat.le_refl, Nat.zero_le, Nat.zero_sub, Nat.sub_zero, List.nil_append, List.cons_append, Option.toList_some, Option.toList_none, eq_self, ↓jOb ho, ↓o2, hb, lF c0, z1, xn2b, show (1 : Int32) = 0 ∨ (1 : Int32) = 1 by decide]
    refine hq _ ⟨⟨1, Or.inr rfl, xput_same _ _ _⟩, ?_, h3, by omega, h5⟩ (fun q e => ?_)
    · rw [xput_ne ne, xput_ne ne]; exact h2
    · rw [xput_ne e, xput_ne e]
set_option maxRecDepth 100000 in
set_option maxHeartbeats 4000000 in
theorem jc161 {E : xE} {M : xM} {b p cap cnt nx : Nat} {f : Nat → Int32} {Q : Option Value → xM → Nat → Prop} (hn : xb E ≤ nx) (hb : xb E ≤ b) (hbn : b < nx) (hp : p < nx) (h : jT M b p cap cnt f) (hq : ∀ M', jT M' b p cap 0 f → (∀ q, q ≠ b → M' q = M q) → Q none M' nx) : XC E 161 [.ref b, .int 0] M nx Q := by
  obtain ⟨⟨ml, hml, ho⟩, _⟩ := id h
  refine XC.run 60 [] ?_
  simp only [n161, n136, t161, ↓xh, ↓xst, ↓xrunE, ↓rG, rL, rSt, updA, List.elem_nil, List.elem_cons, Nat.reduceBEq, Bool.false_eq_true, if_false, if_true, true_and, and_true, true_or, or_true, not_false_eq_true, Nat.reduceAdd, Nat.reduceSub, Nat.reduceLeDiff, Nat.reduceEqDiff, Nat.reduceLT, ↓reduceIte, List.length_cons, List.length_nil, List.set_cons_zero, List.set_cons_succ, Nat.le_refl, Nat.zero_le, Nat.zero_sub, Nat.sub_zero, List.nil_append, List.cons_append, Option.toList_some, Option.toList_none, eq_self, ↓jOb ho]
  refine jc136 hn hb hbn hp h (fun M' h1 h2 => ?_)
  refine XZ.runH 60 [] ?_
  simp only [n161, t161, ↓xh, ↓xst, ↓xrunE, ↓rG, rL, rSt, updA, List.elem_nil, List.elem_cons, Nat.reduceBEq, Bool.false_eq_true, if_false, if_true, true_and, and_true, true_or, or_true, not_false_eq_true, Nat.reduceAdd, Nat.reduceSub, Nat.reduceLeDiff, Nat.reduceEqDiff, Nat.reduceLT, ↓reduceIte, List.length_cons, List.length_nil, List.set_cons_zero, List.set_cons_succ, Nat.le_refl, Nat.zero_le, Nat.zero_sub, Nat.sub_zero, List.nil_append, List.cons_append, Option.toList_some, Option.toList_none, eq_self]
  exact hq M' h1 h2
set_option maxRecDepth 100000 in
set_option maxHeartbeats 4000000 in
theorem jc153 {E : xE} {M : xM} {a b p cap cnt nx : Nat} {v0 v1 v : Value} {f : Nat → Int32} {Q : Option Value → xM → Nat → Prop} (hn : xb E ≤ nx) (ha : xb E ≤ a) (han : a < nx) (hpb : xb E ≤ p) (hp : p < nx) (h : jT M b p cap cnt f) (hs : M a = some (.inl (4, [v0, v1])))
    (hq : ∀ M' g, M' a = some (.inl (4, [.ref nx, .int 0])) → M' nx = some (jBy cnt g) → (∀ k, k < cnt → g k = f k) → (∀ q, q ≠ a → q ≠ nx → M' q = M q) → Q none M' (nx + 1)) : XC E 153 [.ref a, .ref b, v] M nx Q := by
  obtain ⟨⟨ml, hml, ho⟩, h2, h3, h4, h5⟩ := id h
  have ne : p ≠ a := fun z => by rw [z, hs] at h2; cases h2
  have nb : b ≠ a := fun z => by rw [z, hs] at ho; cases ho
  have o1 : ∀ P, xobj M a 4 P = P [v0, v1] := fun P => by simp [xobj, hs]
  refine XC.run 60 [] ?_
  simp only [n153, n138, t153, ↓xh, ↓xst, ↓xrunE, ↓rG, rL, rSt, updA, List.elem_nil, List.elem_cons, Nat.reduceBEq, Bool.false_eq_true, if_false, if_true, true_and, and_true, true_or, or_true, not_false_eq_true, Nat.reduceAdd, Nat.reduceSub, Nat.reduceLeDiff, Nat.reduceEqDiff, Nat.reduceLT, ↓reduceIte, List.length_cons, List.length_nil, List.set_cons_zero, List.set_cons_succ, Nat.le_refl, Nat.zero_le, Nat.zero_sub, Nat.sub_zero, List.nil_append, List.cons_append, Option.toList_some, Option.toList_none, eq_self, ↓jOb ho]
  refine jc138 h ?_
  refine XZ.runH 60 [] ?_
  simp only [n153, n158, t153, ↓xh, ↓xst, ↓xrunE, ↓rG, rL, rSt, updA, List.elem_nil, List.elem_cons, Nat.reduceBEq, Bool.false_eq_true, if_false, if_true, true_and, and_true, true_or, or_true, not_false_eq_true, Nat.reduceAdd, Nat.reduceSub, Nat.reduceLeDiff, Nat.reduceEqDiff, Nat.reduceLT, ↓reduceIte, List.length_cons, List.length_nil, List.set_cons_zero, List.set_cons_succ, Nat.le_refl, Nat.zero_le, Nat.zero_sub, Nat.sub_zero, List.nil_append, List.cons_append, Option.toList_some, Option.toList_none, eq_self, ↓jOb ho]
  refine jc158 h ?_
  refine XZ.runH 60 [] ?_
  simp only [n153, n135, t153, ↓xh, ↓xst, ↓xrunE, ↓rG, rL, rSt, updA, List.elem_nil, List.elem_cons, Nat.reduceBEq, Bool.false_eq_true, if_false, if_true, true_and, and_true, true_or, or_true, not_false_eq_true, Nat.reduceAdd, Nat.reduceSub, Nat.reduceLeDiff, Nat.reduceEqDiff, Nat.reduceLT, ↓reduceIte, List.length_cons, List.length_nil, List.set_cons_zero, List.set_cons_succ, Nat.le_refl, Nat.zero_le, Nat.zero_sub, Nat.sub_zero, List.nil_append, List.cons_append, Option.toList_some, Option.toList_none, eq_self, ↓jOb ho]
  refine jc135 h ?_
  refine XZ.runH 60 [] ?_
  simp only [n153, n170, t153, ↓xh, ↓xst, ↓xrunE, ↓rG, rL, rSt, updA, List.elem_nil, List.elem_cons, Nat.reduceBEq, Bool.false_eq_true, if_false, if_true, true_and, and_true, true_or, or_true, not_false_eq_true, Nat.reduceAdd, Nat.reduceSub, Nat.reduceLeDiff, Nat.reduceEqDiff, Nat.reduceLT, ↓reduceIte, List.length_cons, List.length_nil, List.set_cons_zero, List.set_cons_succ, Nat.le_refl, Nat.zero_le, Nat.zero_sub, Nat.sub_zero, List.nil_append, List.cons_append, Option.toList_some, Option.toList_none, eq_self, show ¬ (1 : Int32) = 0 by decide, ↓o1, ha, show (Int32.toInt8 0).toInt32 = 0 by decide]
  have hA' : ∀ P, xarr (xput M a (.inl (4, [v0, .int 0]))) p P = P 1 cap (fun k => .int (f k)) := fun P => (show xarr (xput M a (.inl (4, [v0, .int 0]))) p P = xarr M p P by unfold xarr; rw [xput_ne ne]).trans (jTA h P)
  refine jc170 (i := 0) (j := cnt) hn hp (Or.inl hpb) hA' (by omega) (by omega) h4 (by omega) h5 (fun M1 g h1 e1 => ?_)
  rw [Nat.sub_zero] at h1 e1
  have s1 : M1 a = some (.inl (4, [v0, .int 0])) := by rw [h1.2 a (by omega)]; exact xput_same _ _ _
  have o3 : ∀ P, xobj M1 a 4 P = P [v0, .int 0] := fun P => by simp [xobj, s1]
  refine XZ.runH 60 [] ?_
  simp only [n153, t153, ↓xh, ↓xst, ↓xrunE, ↓rG, rL, rSt, updA, List.elem_nil, List.elem_cons, Nat.reduceBEq, Bool.false_eq_true, if_false, if_true, true_and, and_true, true_or, or_true, not_false_eq_true, Nat.reduceAdd, Nat.reduceSub, Nat.reduceLeDiff, Nat.reduceEqDiff, Nat.reduceLT, ↓reduceIte, List.length_cons, List.length_nil, List.set_cons_zero, List.set_cons_succ, Nat.le_refl, Nat.zero_le, Nat.zero_sub, Nat.sub_zero, List.nil_append, List.cons_append, Option.toList_some, Option.toList_none, eq_self, ↓o3, ha]
  refine hq _ g (xput_same _ _ _) ?_ (fun k hk => by rw [e1 k hk, Nat.zero_add]) (fun q n1 n2 => ?_)
  · rw [xput_ne (by omega)]; exact h1.1
  · rw [xput_ne n1, h1.2 q n2, xput_ne n1]
