set_option maxRecDepth 100000 in
set_option maxHeartbeats 4000000 in
theorem jc147 {E : xE} {M : xM} {a b p cap cnt nx : Nat} {v0 v1 : Value} {f : Nat → Int32} {Q : Option Value → xM → Nat → Prop} (hn : xb E ≤ nx) (ha : xb E ≤ a) (han : a < nx) (hpb : xb E ≤ p) (hp : p < nx) (h : jT M b p cap cnt f) (hs : M a = some (.inl (4, [v0, v1])))
    (hq : ∀ M' g, M' a = some (.inl (4, [.ref nx, .int 0])) → M' nx = some (jBy cnt g) → (∀ k, k < cnt → g k = f k) → (∀ q, q ≠ a → q ≠ nx → M' q = M q) → Q none M' (nx + 1)) : XC E 147 [.ref a, .ref b] M nx Q := by
  refine XC.run 60 [] ?_
  simp only [n147, n153, t147, ↓xh, ↓xst, ↓xrunE, ↓rG, rL, rSt, updA, List.elem_nil, List.elem_cons, Nat.reduceBEq, Bool.false_eq_true, if_false, if_true, true_and, and_true, true_or, or_true, not_false_eq_true, Nat.reduceAdd, Nat.reduceSub, Nat.reduceLeDiff, Nat.reduceEqDiff, Nat.reduceLT, ↓reduceIte, List.length_cons, List.length_nil, List.set_cons_zero, List.set_cons_succ, Nat.le_refl, Nat.zero_le, Nat.zero_sub, Nat.sub_zero, List.nil_append, List.cons_append, Option.toList_some, Option.toList_none, eq_self]
  refine jc153 hn ha han hpb hp h hs (fun M' g h1 h2 h3 h4 => ?_)
  refine XZ.runH 60 [] ?_
  simp only [n147, t147, ↓xh, ↓xst, ↓xrunE, ↓rG, rL, rSt, updA, List.elem_nil, List.elem_cons, Nat.reduceBEq, Bool.false_eq_true, if_false, if_true, true_and, and_true, true_or, or_true, not_false_eq_true, Nat.reduceAdd, Nat.reduceSub, Nat.reduceLeDiff, Nat.reduceEqDiff, Nat.reduceLT, ↓reduceIte, List.length_cons, List.length_nil, List.set_cons_zero, List.set_cons_succ, Nat.le_refl, Nat.zero_le, Nat.zero_sub, Nat.sub_zero, List.nil_append, List.cons_append, Option.toList_some, Option.toList_none, eq_self]
  exact hq M' g h1 h2 h3 h4
set_option maxRecDepth 100000 in
set_option maxHeartbeats 4000000 in
theorem jc160 {E : xE} {M : xM} {b p cap cnt nx : Nat} {f : Nat → Int32} {Q : Option Value → xM → Nat → Prop} (hn : xb E ≤ nx) (hbn : b < nx) (hpb : xb E ≤ p) (hp : p < nx) (h : jT M b p cap cnt f)
    (hq : ∀ M' g, jS M' nx (nx + 1) cnt g → (∀ k, k < cnt → g k = f k) → (∀ q, q < nx → M' q = M q) → Q (some (.ref nx)) M' (nx + 2)) : XC E 160 [.ref b] M nx Q := by
  obtain ⟨⟨ml, hml, ho⟩, h2, h3, h4, h5⟩ := id h
  refine XC.run 60 [] ?_
  simp only [n160, n147, t160, ↓xh, ↓xst, ↓xrunE, ↓rG, rL, rSt, updA, List.elem_nil, List.elem_cons, Nat.reduceBEq, Bool.false_eq_true, if_false, if_true, true_and, and_true, true_or, or_true, not_false_eq_true, Nat.reduceAdd, Nat.reduceSub, Nat.reduceLeDiff, Nat.reduceEqDiff, Nat.reduceLT, ↓reduceIte, List.length_cons, List.length_nil, List.set_cons_zero, List.set_cons_succ, Nat.le_refl, Nat.zero_le, Nat.zero_sub, Nat.sub_zero, List.nil_append, List.cons_append, Option.toList_some, Option.toList_none, eq_self, jxd4, Nat.reduceSub, Nat.reduceLeDiff]
  have h' : jT (xput M nx (.inl (4, [.null, .int 0]))) b p cap cnt f := ⟨⟨ml, hml, by rw [xput_ne (by omega)]; exact ho⟩, by rw [xput_ne (by omega)]; exact h2, h3, h4, h5⟩
  refine jc147 (nx := nx + 1) (by omega) hn (by omega) hpb (by omega) h' (xput_same _ _ _) (fun M' g e1 e2 e3 e4 => ?_)
  refine XZ.runH 60 [] ?_
  simp only [n160, t160, ↓xh, ↓xst, ↓xrunE, ↓rG, rL, rSt, updA, List.elem_nil, List.elem_cons, Nat.reduceBEq, Bool.false_eq_true, if_false, if_true, true_and, and_true, true_or, or_true, not_false_eq_true, Nat.reduceAdd, Nat.reduceSub, Nat.reduceLeDiff, Nat.reduceEqDiff, Nat.reduceLT, ↓reduceIte, List.length_cons, List.length_nil, List.set_cons_zero, List.set_cons_succ, Nat.le_refl, Nat.zero_le, Nat.zero_sub, Nat.sub_zero, List.nil_append, List.cons_append, Option.toList_some, Option.toList_none, eq_self]
  refine hq M' g ⟨e1, e2, by omega, fun k hk => ?_⟩ e3 (fun q hq => ?_)
  · rw [e3 k hk]; exact h5 k (by omega)
  · rw [e4 q (by omega) (by omega), xput_ne (by omega)]
set_option maxRecDepth 100000 in
set_option maxHeartbeats 4000000 in
theorem jc131 {E : xE} {M : xM} {b nx : Nat} {Q : Option Value → xM → Nat → Prop} (hn : xb E ≤ nx) (hb : xb E ≤ b) (hbn : b < nx) (h : M b = some (.inl (1, [.null, .int 0, .int 0, .int 0])))
    (hq : ∀ M', jT M' b nx 16 0 (fun _ => 0) → (∀ q, q ≠ b → q ≠ nx → M' q = M q) → Q none M' (nx + 1)) : XC E 131 [.ref b, .int 16] M nx Q := by
  have o1 : ∀ c P, xobj (xput M nx c) b 1 P = P [.null, .int 0, .int 0, .int 0] := fun c P => by unfold xobj; rw [xput_ne (by omega), h]; simp
  have o2 : ∀ M2 c P, xobj (xput M2 b (.inl (1, c))) b 1 P = P c := fun M2 c P => by simp [xobj, xput_same]
  refine XC.run 60 [] ?_
  simp only [n131, t131, ↓xh, ↓xst, ↓xrunE, ↓rG, rL, rSt, updA, List.elem_nil, List.elem_cons, Nat.reduceBEq, Bool.false_eq_true, if_false, if_true, true_and, and_true, true_or, or_true, not_false_eq_true, Nat.reduceAdd, Nat.reduceSub, Nat.reduceLeDiff, Nat.reduceEqDiff, Nat.reduceLT, ↓reduceIte, List.length_cons, List.length_nil, List.set_cons_zero, List.set_cons_succ, Nat.le_refl, Nat.zero_le, Nat.zero_sub, Nat.sub_zero, List.nil_append, List.cons_append, Option.toList_some, Option.toList_none, eq_self, show ¬ (1 : Int32) = 0 by decide, show ¬ (16 : Int32) < 0 by decide, show Int32.toNatClampNeg 16 = 16 by decide, Nat.reduceLeDiff, ↓o2, ↓o1, hb, show (Int32.toInt8 0).toInt32 = 0 by decide]
  refine hq _ ⟨⟨0, Or.inl rfl, xput_same _ _ _⟩, ?_, Or.inl rfl, by omega, fun k hk => ⟨0, by decide, rfl⟩⟩ (fun q e1 e2 => ?_)
  · rw [xput_ne (by omega), xput_ne (by omega), xput_same]
  · rw [xput_ne e1, xput_ne e1, xput_ne e2]
set_option maxRecDepth 100000 in
set_option maxHeartbeats 4000000 in
theorem jc157 {E : xE} {M : xM} {b nx : Nat} {Q : Option Value → xM → Nat → Prop} (hn : xb E ≤ nx) (hb : xb E ≤ b) (hbn : b < nx) (h : M b = some (.inl (1, [.null, .int 0, .int 0, .int 0])))
    (hq : ∀ M', jT M' b nx 16 0 (fun _ => 0) → (∀ q, q ≠ b → q ≠ nx → M' q = M q) → Q none M' (nx + 1)) : XC E 157 [.ref b] M nx Q := by
  refine XC.run 60 [] ?_
  simp only [n157, n131, t157, ↓xh, ↓xst, ↓xrunE, ↓rG, rL, rSt, updA, List.elem_nil, List.elem_cons, Nat.reduceBEq, Bool.false_eq_true, if_false, if_true, true_and, and_true, true_or, or_true, not_false_eq_true, Nat.reduceAdd, Nat.reduceSub, Nat.reduceLeDiff, Nat.reduceEqDiff, Nat.reduceLT, ↓reduceIte, List.length_cons, List.length_nil, List.set_cons_zero, List.set_cons_succ, Nat.le_refl, Nat.zero_le, Nat.zero_sub, Nat.sub_zero, List.nil_append, List.cons_append, Option.toList_some, Option.toList_none, eq_self]
  refine jc131 hn hb hbn h (fun M' h1 h2 => ?_)
  refine XZ.runH 60 [] ?_
  simp only [n157, t157, ↓xh, ↓xst, ↓xrunE, ↓rG, rL, rSt, updA, List.elem_nil, List.elem_cons, Nat.reduceBEq, Bool.false_eq_true, if_false, if_true, true_and, and_true, true_or, or_true, not_false_eq_true, Nat.reduceAdd, Nat.reduceSub, Nat.reduceLeDiff, Nat.reduceEqDiff, Nat.reduceLT, ↓reduceIte, List.length_cons, List.length_nil, List.set_cons_zero, List.set_cons_succ, Nat.le_refl, Nat.zero_le, Nat.zero_sub, Nat.sub_zero, List.nil_append, List.cons_append, Option.toList_some, Option.toList_none, eq_self]
  exact hq M' h1 h2
set_option maxRecDepth 100000 in
set_option maxHeartbeats 4000000 in
theorem jc146 {E : xE} {M : xM} {a p n a' p' n' nx : Nat} {f g : Nat → Int32} {Q : Option Value → xM → Nat → Prop} (h : jS M a p n f) (h' : jS M a' p' n' g) (hq1 : a = a' → Q (some (.int 1)) M nx) (hq : ¬ a = a' → Q (some (.int (if n = n' ∧ jEq f g n 0 = true then 1 else 0))) M nx) : XC E 146 [.ref a, .ref a'] M nx Q := by
  refine XC.run 60 [] ?_
  by_cases c : a = a'
  · subst c
    simp only [n146, t146, ↓xh, ↓xst, ↓xrunE, ↓rG, rL, rSt, updA, List.elem_nil, List.elem_cons, Nat.reduceBEq, Bool.false_eq_true, if_false, if_true, true_and, and_true, true_or, or_true, not_false_eq_true, Nat.reduceAdd, Nat.reduceSub, Nat.reduceLeDiff, Nat.reduceEqDiff, Nat.reduceLT, ↓reduceIte, List.length_cons, List.length_nil, List.set_cons_zero, List.set_cons_succ, Nat.le_refl, Nat.zero_le, Nat.zero_sub, Nat.sub_zero, List.nil_append, List.cons_append, Option.toList_some, Option.toList_none, eq_self]
    exact hq1 rfl
  · have z : ¬ some a = some a' := fun y => c (Option.some.inj y)
    simp only [n146, n164, t146, ↓xh, ↓xst, ↓xrunE, ↓rG, rL, rSt, updA, List.elem_nil, List.elem_cons, Nat.reduceBEq, Bool.false_eq_true, if_false, if_true, true_and, and_true, true_or, or_true, not_false_eq_true, Nat.reduceAdd, Nat.reduceSub, Nat.reduceLeDiff, Nat.reduceEqDiff, Nat.reduceLT, ↓reduceIte, List.length_cons, List.length_nil, List.set_cons_zero, List.set_cons_succ, Nat.le_refl, Nat.zero_le, Nat.zero_sub, Nat.sub_zero, List.nil_append, List.cons_append, Option.toList_some, Option.toList_none, eq_self, c, z, ↓jO h, ↓jO h', show ¬ (1 : Int32) = 0 by decide]
    refine jc164 (jA h) (jA h') h.2.2.1 h'.2.2.1 ?_
    by_cases d : n = n' ∧ jEq f g n 0 = true
    · have := hq c
      rw [if_pos d] at this ⊢
      refine XZ.runH 60 [] ?_
      simp only [n146, t146, ↓xh, ↓xst, ↓xrunE, ↓rG, rL, rSt, updA, List.elem_nil, List.elem_cons, Nat.reduceBEq, Bool.false_eq_true, if_false, if_true, true_and, and_true, true_or, or_true, not_false_eq_true, Nat.reduceAdd, Nat.reduceSub, Nat.reduceLeDiff, Nat.reduceEqDiff, Nat.reduceLT, ↓reduceIte, List.length_cons, List.length_nil, List.set_cons_zero, List.set_cons_succ, Nat.le_refl, Nat.zero_le, Nat.zero_sub, Nat.sub_zero, List.nil_append, List.cons_append, Option.toList_some, Option.toList_none, eq_self, show ¬ (1 : Int32) = 0 by decide]
      exact this
    · have := hq c
      rw [if_neg d] at this ⊢
      refine XZ.runH 60 [] ?_
      simp only [n146, t146, ↓xh, ↓xst, ↓xrunE, ↓rG, rL, rSt, updA, List.elem_nil, List.elem_cons, Nat.reduceBEq, Bool.false_eq_true, if_false, if_true, true_and, and_true, true_or, or_true, not_false_eq_true, Nat.reduceAdd, Nat.reduceSub, Nat.reduceLeDiff, Nat.reduceEqDiff, Nat.reduceLT, ↓reduceIte, List.length_cons, List.length_nil, List.set_cons_zero, List.set_cons_succ, Nat.le_refl, Nat.zero_le, Nat.zero_sub, Nat.sub_zero, List.nil_append, List.cons_append, Option.toList_some, Option.toList_none, eq_self]
      exact this
