/-! a new object -/
theorem cx0 : xdef 0 = [.int 0, .int 0, .int 0, .null, .null, .null, .null, .int 0, .null, .int 0, .null, .int 0, .null, .null, .int 0] := by decide +kernel
theorem cx1 : xdef 1 = [.null, .int 0, .int 0, .int 0] := by decide +kernel
theorem cx2 : xdef 2 = [.null, .int 0, .null, .int 0] := by decide +kernel
theorem cx3 : xdef 3 = [.null, .int 0, .int 0] := by decide +kernel
def kZ (c : Nat) (ml : Int32) (d : Nat) : xC := match d with
  | 1 => .inl (1, [.ref (c + 2), .int 0, .int ml, .int 0])
  | 2 => .inr (1, 16, fun _ => .int 0)
  | 3 => .inl (2, [.ref (c + 4), .int 0, .ref (c + 5), .int 0])
  | 4 => .inr (4, 8, fun _ => .null)
  | 5 => .inr (5, 6, fun _ => .null)
  | 6 => .inl (3, [.ref (c + 3), .int 0, .int 0])
  | 7 => .inr (6, 16, fun _ => .null)
  | 8 => .inr (7, 12, fun _ => .null)
  | 9 => .inr (0, 16, fun _ => .int 0)
  | 10 => .inr (0, 8, fun _ => .int 0)
  | _ => .inr (0, 16, fun _ => .int 0)
/-- the object at c with these fields, n cells with it; all else as in M0 -/
def kP (M0 M : xM) (c n : Nat) (fs : List Value) (ml : Int32) : Prop := M c = some (.inl (0, fs)) ∧ (∀ d, 1 ≤ d → d < n → M (c + d) = some (kZ c ml d)) ∧ ∀ q, ¬ (c ≤ q ∧ q < c + n) → M q = M0 q
theorem kP.arr {M0 M : xM} {c n : Nat} {fs fs' : List Value} {ml : Int32} {z : xC} (h : kP M0 M c n fs ml) (hn : 1 ≤ n) (e : z = kZ c ml n) : kP M0 (xput (xput M (c + n) z) c (.inl (0, fs'))) c (n + 1) fs' ml := by
  refine ⟨xput_same _ _ _, fun d h1 h2 => ?_, fun q hq => ?_⟩
  · rw [xput_ne (by omega)]
    by_cases y : d = n
    · rw [y, xput_same, e]
    · rw [xput_ne (by omega)]
      exact h.2.1 d h1 (by omega)
  · rw [xput_ne (by omega), xput_ne (by omega)]
    exact h.2.2 q (by omega)
theorem kP.ob {M0 M : xM} {c n : Nat} {fs : List Value} {ml : Int32} (h : kP M0 M c n fs ml) (hn : 1 ≤ n) : ∀ z P, xobj (xput M (c + n) z) c 0 P = P fs := fun z P => by
  unfold xobj
  rw [xput_ne (by omega), h.1]
  simp
theorem kP.pf {M0 M : xM} {c n : Nat} {fs fs' : List Value} {ml : Int32} (h : kP M0 M c n fs ml) (hn : 1 ≤ n) : kP M0 (xput M c (.inl (0, fs'))) c n fs' ml := ⟨xput_same _ _ _, fun d h1 h2 => by rw [xput_ne (by omega)]; exact h.2.1 d h1 h2, fun q hq => by rw [xput_ne (by omega)]; exact h.2.2 q hq⟩
section CON
variable {E : xE} {nx : Nat} {M : xM} {Q : Option Value → xM → Nat → Prop}
set_option maxRecDepth 100000 in
set_option maxHeartbeats 4000000 in
theorem mc32 {p : Nat} (hb : xb E ≤ p) (h : M p = some (.inl (2, [.null, .int 0, .null, .int 0]))) (hq : ∀ M', M' p = some (.inl (2, [.ref (p + 1), .int 0, .ref (p + 2), .int 0])) → M' (p + 1) = some (.inr (4, 8, fun _ => .null)) → M' (p + 2) = some (.inr (5, 6, fun _ => .null)) → (∀ q, ¬ (p ≤ q ∧ q < p + 3) → M' q = M q) → Q none M' (p + 3)) : XC E 32 [.ref p] M (p + 1) Q := by
  have o1 : ∀ (M' : xM) z d, 0 < d → M' p = some (.inl (2, z)) → ∀ c P, xobj (xput M' (p + d) c) p 2 P = P z := fun M' z d hd h' c P => by unfold xobj; rw [xput_ne (by omega), h']; simp
  refine XC.run 60 [13] ?_
  simp only [n32, t32, ↓xh, ↓xst, ↓xrunE, ↓rG, rL, rSt, updA, List.elem_nil, List.elem_cons, Nat.reduceBEq, Bool.false_eq_true, if_false, if_true, true_and, and_true, true_or, or_true, not_false_eq_true, Nat.reduceAdd, Nat.reduceSub, Nat.reduceLeDiff, Nat.reduceEqDiff, Nat.reduceLT, ↓reduceIte, List.length_cons, List.length_nil, List.set_cons_zero, List.set_cons_succ, Nat.le_refl, Nat.zero_le, Nat.zero_sub, Nat.sub_zero, List.nil_append, List.cons_append, Option.toList_some, Option.toList_none, eq_self, show ¬ (8 : Int32) < 0 by decide, show Int32.toNatClampNeg 8 = 8 by decide, Nat.reduceLeDiff, ↓o1 M _ 1 (by omega) h, hb]
  refine XZ.abs2 (P := fun M' => M' p = some (.inl (2, [.ref (p + 1), .int 0, .null, .int 0])) ∧ M' (p + 1) = some (.inr (4, 8, fun _ => .null)) ∧ ∀ q, ¬ (p ≤ q ∧ q < p + 2) → M' q = M q) ⟨xput_same _ _ _, by rw [xput_ne (by omega), xput_same], fun q hq => by rw [xput_ne (by omega), xput_ne (by omega)]⟩ (fun M1 j1 => ?_)
  refine XZ.runH 60 [] ?_
  simp only [n32, t32, ↓xh, ↓xst, ↓xrunE, ↓rG, rL, rSt, updA, List.elem_nil, List.elem_cons, Nat.reduceBEq, Bool.false_eq_true, if_false, if_true, true_and, and_true, true_or, or_true, not_false_eq_true, Nat.reduceAdd, Nat.reduceSub, Nat.reduceLeDiff, Nat.reduceEqDiff, Nat.reduceLT, ↓reduceIte, List.length_cons, List.length_nil, List.set_cons_zero, List.set_cons_succ, Nat.le_refl, Nat.zero_le, Nat.zero_sub, Nat.sub_zero, List.nil_append, List.cons_append, Option.toList_some, Option.toList_none, eq_self, show ¬ (6 : Int32) < 0 by decide, show Int32.toNatClampNeg 6 = 6 by decide, Nat.reduceLeDiff, ↓o1 M1 _ 2 (by omega) j1.1, hb]
  refine hq _ (xput_same _ _ _) (by rw [xput_ne (by omega), xput_ne (by omega)]; exact j1.2.1) (by rw [xput_ne (by omega), xput_same]) (fun q hq => by rw [xput_ne (by omega), xput_ne (by omega)]; exact j1.2.2 q (by omega))
set_option maxRecDepth 100000 in
set_option maxHeartbeats 4000000 in
theorem mc58 {p z : Nat} (hb : xb E ≤ p) (h : M p = some (.inl (3, [.null, .int 0, .int 0]))) (hq : ∀ M', jN M M' p (.inl (3, [.ref z, .int 0, .int 0])) → Q none M' nx) : XC E 58 [.ref p, .ref z] M nx Q := by
  refine XC.run 60 [] ?_
  simp only [n58, t58, ↓xh, ↓xst, ↓xrunE, ↓rG, rL, rSt, updA, List.elem_nil, List.elem_cons, Nat.reduceBEq, Bool.false_eq_true, if_false, if_true, true_and, and_true, true_or, or_true, not_false_eq_true, Nat.reduceAdd, Nat.reduceSub, Nat.reduceLeDiff, Nat.reduceEqDiff, Nat.reduceLT, ↓reduceIte, List.length_cons, List.length_nil, List.set_cons_zero, List.set_cons_succ, Nat.le_refl, Nat.zero_le, Nat.zero_sub, Nat.sub_zero, List.nil_append, List.cons_append, Option.toList_some, Option.toList_none, eq_self, ↓cO h, hb]
  exact hq _ (jN_put M p _)
set_option maxRecDepth 100000 in
set_option maxHeartbeats 4000000 in
theorem mc2 {c : Nat} {a b d : Int32} (hb : xb E ≤ c) (h : M c = some (.inl (0, [.int 0, .int 0, .int 0, .null, .null, .null, .null, .int 0, .null, .int 0, .null, .int 0, .null, .null, .int 0]))) (hq : ∀ M' ml, (ml = 0 ∨ ml = 1) → kP M M' c 12 [.int (1 + (a &&& 3)), .int (1 + (b &&& 3)), .int (1 + (d &&& 15)), .ref (c + 1), .ref (c + 3), .ref (c + 6), .ref (c + 7), .int 0, .ref (c + 8), .int 0, .ref (c + 9), .int 0, .ref (c + 10), .ref (c + 11), .int 0] ml → Q none M' (c + 12)) : XC E 2 [.ref c, .int a, .int b, .int d] M (c + 1) Q := by
  have t8 : Int32.toNatClampNeg 8 = 8 := by decide
  have t16 : Int32.toNatClampNeg 16 = 16 := by decide
  have t12 : Int32.toNatClampNeg 12 = 12 := by decide
  have n8 : ¬ (8 : Int32) < 0 := by decide
  have n16 : ¬ (16 : Int32) < 0 := by decide
  have n12 : ¬ (12 : Int32) < 0 := by decide
  refine XC.run 60 [8] ?_
  simp only [n2, t2, ↓xh, ↓xst, ↓xrunE, ↓rG, rL, rSt, updA, List.elem_nil, List.elem_cons, Nat.reduceBEq, Bool.false_eq_true, if_false, if_true, true_and, and_true, true_or, or_true, not_false_eq_true, Nat.reduceAdd, Nat.reduceSub, Nat.reduceLeDiff, Nat.reduceEqDiff, Nat.reduceLT, ↓reduceIte, List.length_cons, List.length_nil, List.set_cons_zero, List.set_cons_succ, Nat.le_refl, Nat.zero_le, Nat.zero_sub, Nat.sub_zero, List.nil_append, List.cons_append, Option.toList_some, Option.toList_none, eq_self, cx1]
  refine XZ.abs2 (P := fun M' => jN M M' (c + 1) (.inl (1, [.null, .int 0, .int 0, .int 0]))) (jN_put M _ _) (fun M1 j1 => ?_)
  refine XZ.runH 60 [] ?_
  simp only [n2, n157, t2, ↓xh, ↓xst, ↓xrunE, ↓rG, rL, rSt, updA, List.elem_nil, List.elem_cons, Nat.reduceBEq, Bool.false_eq_true, if_false, if_true, true_and, and_true, true_or, or_true, not_false_eq_true, Nat.reduceAdd, Nat.reduceSub, Nat.reduceLeDiff, Nat.reduceEqDiff, Nat.reduceLT, ↓reduceIte, List.length_cons, List.length_nil, List.set_cons_zero, List.set_cons_succ, Nat.le_refl, Nat.zero_le, Nat.zero_sub, Nat.sub_zero, List.nil_append, List.cons_append, Option.toList_some, Option.toList_none, eq_self]
  refine jc157 (nx := c + 2) (by omega) (by omega) (by omega) j1.1 (fun M2 j2 f2 => ?_)
  obtain ⟨⟨ml, hml, ho⟩, h24, _⟩ := j2
  have k2 : kP M M2 c 3 [.int 0, .int 0, .int 0, .null, .null, .null, .null, .int 0, .null, .int 0, .null, .int 0, .null, .null, .int 0] ml := by
    refine ⟨by rw [f2 _ (by omega) (by omega), j1.2 _ (by omega)]; exact h, fun e h1 h2 => ?_, fun q hq => by rw [f2 _ (by omega) (by omega), j1.2 _ (by omega)]⟩
    obtain rfl | rfl : e = 1 ∨ e = 2 := by omega
    · exact ho
    · exact h24
  refine XZ.runH 60 [15, 19, 26, 41, 50, 59, 67, 75, 83, 92, 101, 111] ?_
  simp only [n2, t2, ↓xh, ↓xst, ↓xrunE, ↓rG, rL, rSt, updA, List.elem_nil, List.elem_cons, Nat.reduceBEq, Bool.false_eq_true, if_false, if_true, true_and, and_true, true_or, or_true, not_false_eq_true, Nat.reduceAdd, Nat.reduceSub, Nat.reduceLeDiff, Nat.reduceEqDiff, Nat.reduceLT, ↓reduceIte, List.length_cons, List.length_nil, List.set_cons_zero, List.set_cons_succ, Nat.le_refl, Nat.zero_le, Nat.zero_sub, Nat.sub_zero, List.nil_append, List.cons_append, Option.toList_some, Option.toList_none, eq_self, ↓cO k2.1, hb]
  refine XZ.abs2 (P := fun M' => kP M M' c 3 [.int 0, .int 0, .int 0, .ref (c + 1), .null, .null, .null, .int 0, .null, .int 0, .null, .int 0, .null, .null, .int 0] ml) (k2.pf (by omega)) (fun M3 k3 => ?_)
  refine XZ.runH 60 [15, 19, 26, 41, 50, 59, 67, 75, 83, 92, 101, 111] ?_
  simp only [n2, t2, ↓xh, ↓xst, ↓xrunE, ↓rG, rL, rSt, updA, List.elem_nil, List.elem_cons, Nat.reduceBEq, Bool.false_eq_true, if_false, if_true, true_and, and_true, true_or, or_true, not_false_eq_true, Nat.reduceAdd, Nat.reduceSub, Nat.reduceLeDiff, Nat.reduceEqDiff, Nat.reduceLT, ↓reduceIte, List.length_cons, List.length_nil, List.set_cons_zero, List.set_cons_succ, Nat.le_refl, Nat.zero_le, Nat.zero_sub, Nat.sub_zero, List.nil_append, List.cons_append, Option.toList_some, Option.toList_none, eq_self, cx2]
  refine XZ.abs2 (P := fun M' => jN M3 M' (c + 3) (.inl (2, [.null, .int 0, .null, .int 0]))) (jN_put M3 _ _) (fun M4 j4 => ?_)
  refine XZ.runH 60 [15, 26, 41, 50, 59, 67, 75, 83, 92, 101, 111] ?_
  simp only [n2, n32, t2, ↓xh, ↓xst, ↓xrunE, ↓rG, rL, rSt, updA, List.elem_nil, List.elem_cons, Nat.reduceBEq, Bool.false_eq_true, if_false, if_true, true_and, and_true, true_or, or_true, not_false_eq_true, Nat.reduceAdd, Nat.reduceSub, Nat.reduceLeDiff, Nat.reduceEqDiff, Nat.reduceLT, ↓reduceIte, List.length_cons, List.length_nil, List.set_cons_zero, List.set_cons_succ, Nat.le_refl, Nat.zero_le, Nat.zero_sub, Nat.sub_zero, List.nil_append, List.cons_append, Option.toList_some, Option.toList_none, eq_self]
  refine mc32 (p := c + 3) (by omega) j4.1 (fun M5 e1 e2 e3 f5 => ?_)
  have k5 : kP M M5 c 6 [.int 0, .int 0, .int 0, .ref (c + 1), .null, .null, .null, .int 0, .null, .int 0, .null, .int 0, .null, .null, .int 0] ml := by
    refine ⟨by rw [f5 _ (by omega), j4.2 _ (by omega)]; exact k3.1, fun e h1 h2 => ?_, fun q hq => by rw [f5 _ (by omega), j4.2 _ (by omega)]; exact k3.2.2 q (by omega)⟩
    by_cases y : e < 3
    · rw [f5 _ (by omega), j4.2 _ (by omega)]; exact k3.2.1 e h1 y
    · obtain rfl | rfl | rfl : e = 3 ∨ e = 4 ∨ e = 5 := by omega
      · exact e1
      · exact e2
      · exact e3
  refine XZ.runH 60 [15, 26, 30, 41, 50, 59, 67, 75, 83, 92, 101, 111] ?_
  simp only [n2, t2, ↓xh, ↓xst, ↓xrunE, ↓rG, rL, rSt, updA, List.elem_nil, List.elem_cons, Nat.reduceBEq, Bool.false_eq_true, if_false, if_true, true_and, and_true, true_or, or_true, not_false_eq_true, Nat.reduceAdd, Nat.reduceSub, Nat.reduceLeDiff, Nat.reduceEqDiff, Nat.reduceLT, ↓reduceIte, List.length_cons, List.length_nil, List.set_cons_zero, List.set_cons_succ, Nat.le_refl, Nat.zero_le, Nat.zero_sub, Nat.sub_zero, List.nil_append, List.cons_append, Option.toList_some, Option.toList_none, eq_self, ↓cO k5.1, hb]
  refine XZ.abs2 (P := fun M' => kP M M' c 6 [.int 0, .int 0, .int 0, .ref (c + 1), .ref (c + 3), .null, .null, .int 0, .null, .int 0, .null, .int 0, .null, .null, .int 0] ml) (k5.pf (by omega)) (fun M6 k6 => ?_)
  refine XZ.runH 60 [15, 26, 30, 41, 50, 59, 67, 75, 83, 92, 101, 111] ?_
  simp only [n2, t2, ↓xh, ↓xst, ↓xrunE, ↓rG, rL, rSt, updA, List.elem_nil, List.elem_cons, Nat.reduceBEq, Bool.false_eq_true, if_false, if_true, true_and, and_true, true_or, or_true, not_false_eq_true, Nat.reduceAdd, Nat.reduceSub, Nat.reduceLeDiff, Nat.reduceEqDiff, Nat.reduceLT, ↓reduceIte, List.length_cons, List.length_nil, List.set_cons_zero, List.set_cons_succ, Nat.le_refl, Nat.zero_le, Nat.zero_sub, Nat.sub_zero, List.nil_append, List.cons_append, Option.toList_some, Option.toList_none, eq_self, cx3]
  refine XZ.abs2 (P := fun M' => jN M6 M' (c + 6) (.inl (3, [.null, .int 0, .int 0]))) (jN_put M6 _ _) (fun M7 j7 => ?_)
  have o7 : ∀ P, xobj M7 c 0 P = P [.int 0, .int 0, .int 0, .ref (c + 1), .ref (c + 3), .null, .null, .int 0, .null, .int 0, .null, .int 0, .null, .null, .int 0] := cO (by rw [j7.2 _ (by omega)]; exact k6.1)
  refine XZ.runH 60 [15, 26, 41, 50, 59, 67, 75, 83, 92, 101, 111] ?_
  simp only [n2, n58, t2, ↓xh, ↓xst, ↓xrunE, ↓rG, rL, rSt, updA, List.elem_nil, List.elem_cons, Nat.reduceBEq, Bool.false_eq_true, if_false, if_true, true_and, and_true, true_or, or_true, not_false_eq_true, Nat.reduceAdd, Nat.reduceSub, Nat.reduceLeDiff, Nat.reduceEqDiff, Nat.reduceLT, ↓reduceIte, List.length_cons, List.length_nil, List.set_cons_zero, List.set_cons_succ, Nat.le_refl, Nat.zero_le, Nat.zero_sub, Nat.sub_zero, List.nil_append, List.cons_append, Option.toList_some, Option.toList_none, eq_self, ↓o7]
  refine mc58 (by omega) j7.1 (fun M8 j8 => ?_)
  have k8 : kP M M8 c 7 [.int 0, .int 0, .int 0, .ref (c + 1), .ref (c + 3), .null, .null, .int 0, .null, .int 0, .null, .int 0, .null, .null, .int 0] ml := by
    refine ⟨by rw [j8.2 _ (by omega), j7.2 _ (by omega)]; exact k6.1, fun e h1 h2 => ?_, fun q hq => by rw [j8.2 _ (by omega), j7.2 _ (by omega)]; exact k6.2.2 q (by omega)⟩
    by_cases y : e < 6
    · rw [j8.2 _ (by omega), j7.2 _ (by omega)]; exact k6.2.1 e h1 y
    · obtain rfl : e = 6 := by omega
      exact j8.1
  refine XZ.runH 60 [15, 26, 41, 50, 59, 67, 75, 83, 92, 101, 111] ?_
  simp only [n2, t2, ↓xh, ↓xst, ↓xrunE, ↓rG, rL, rSt, updA, List.elem_nil, List.elem_cons, Nat.reduceBEq, Bool.false_eq_true, if_false, if_true, true_and, and_true, true_or, or_true, not_false_eq_true, Nat.reduceAdd, Nat.reduceSub, Nat.reduceLeDiff, Nat.reduceEqDiff, Nat.reduceLT, ↓reduceIte, List.length_cons, List.length_nil, List.set_cons_zero, List.set_cons_succ, Nat.le_refl, Nat.zero_le, Nat.zero_sub, Nat.sub_zero, List.nil_append, List.cons_append, Option.toList_some, Option.toList_none, eq_self, ↓cO k8.1, hb]
  refine XZ.abs2 (P := fun M' => kP M M' c 7 [.int 0, .int 0, .int 0, .ref (c + 1), .ref (c + 3), .ref (c + 6), .null, .int 0, .null, .int 0, .null, .int 0, .null, .null, .int 0] ml) (k8.pf (by omega)) (fun M9 k9 => ?_)
  refine XZ.runH 60 [15, 26, 41, 50, 59, 67, 75, 83, 92, 101, 111] ?_
  simp only [n2, t2, ↓xh, ↓xst, ↓xrunE, ↓rG, rL, rSt, updA, List.elem_nil, List.elem_cons, Nat.reduceBEq, Bool.false_eq_true, if_false, if_true, true_and, and_true, true_or, or_true, not_false_eq_true, Nat.reduceAdd, Nat.reduceSub, Nat.reduceLeDiff, Nat.reduceEqDiff, Nat.reduceLT, ↓reduceIte, List.length_cons, List.length_nil, List.set_cons_zero, List.set_cons_succ, Nat.le_refl, Nat.zero_le, Nat.zero_sub, Nat.sub_zero, List.nil_append, List.cons_append, Option.toList_some, Option.toList_none, eq_self, n16, t16, Nat.reduceLeDiff, ↓k9.ob (by omega), hb]
  refine XZ.abs2 (P := fun M' => kP M M' c 8 [.int 0, .int 0, .int 0, .ref (c + 1), .ref (c + 3), .ref (c + 6), .ref (c + 7), .int 0, .null, .int 0, .null, .int 0, .null, .null, .int 0] ml) (k9.arr (by omega) rfl) (fun Ma ka => ?_)
  refine XZ.runH 60 [15, 26, 41, 50, 59, 67, 75, 83, 92, 101, 111] ?_
  simp only [n2, t2, ↓xh, ↓xst, ↓xrunE, ↓rG, rL, rSt, updA, List.elem_nil, List.elem_cons, Nat.reduceBEq, Bool.false_eq_true, if_false, if_true, true_and, and_true, true_or, or_true, not_false_eq_true, Nat.reduceAdd, Nat.reduceSub, Nat.reduceLeDiff, Nat.reduceEqDiff, Nat.reduceLT, ↓reduceIte, List.length_cons, List.length_nil, List.set_cons_zero, List.set_cons_succ, Nat.le_refl, Nat.zero_le, Nat.zero_sub, Nat.sub_zero, List.nil_append, List.cons_append, Option.toList_some, Option.toList_none, eq_self, n12, t12, Nat.reduceLeDiff, ↓ka.ob (by omega), hb]
  refine XZ.abs2 (P := fun M' => kP M M' c 9 [.int 0, .int 0, .int 0, .ref (c + 1), .ref (c + 3), .ref (c + 6), .ref (c + 7), .int 0, .ref (c + 8), .int 0, .null, .int 0, .null, .null, .int 0] ml) (ka.arr (by omega) rfl) (fun Mb kb => ?_)
  refine XZ.runH 60 [15, 26, 41, 50, 59, 67, 75, 83, 92, 101, 111] ?_
  simp only [n2, t2, ↓xh, ↓xst, ↓xrunE, ↓rG, rL, rSt, updA, List.elem_nil, List.elem_cons, Nat.reduceBEq, Bool.false_eq_true, if_false, if_true, true_and, and_true, true_or, or_true, not_false_eq_true, Nat.reduceAdd, Nat.reduceSub, Nat.reduceLeDiff, Nat.reduceEqDiff, Nat.reduceLT, ↓reduceIte, List.length_cons, List.length_nil, List.set_cons_zero, List.set_cons_succ, Nat.le_refl, Nat.zero_le, Nat.zero_sub, Nat.sub_zero, List.nil_append, List.cons_append, Option.toList_some, Option.toList_none, eq_self, n16, t16, Nat.reduceLeDiff, ↓kb.ob (by omega), hb]
  refine XZ.abs2 (P := fun M' => kP M M' c 10 [.int 0, .int 0, .int 0, .ref (c + 1), .ref (c + 3), .ref (c + 6), .ref (c + 7), .int 0, .ref (c + 8), .int 0, .ref (c + 9), .int 0, .null, .null, .int 0] ml) (kb.arr (by omega) rfl) (fun Mc kc => ?_)
  refine XZ.runH 60 [15, 26, 41, 50, 59, 67, 75, 83, 92, 101, 111] ?_
  simp only [n2, t2, ↓xh, ↓xst, ↓xrunE, ↓rG, rL, rSt, updA, List.elem_nil, List.elem_cons, Nat.reduceBEq, Bool.false_eq_true, if_false, if_true, true_and, and_true, true_or, or_true, not_false_eq_true, Nat.reduceAdd, Nat.reduceSub, Nat.reduceLeDiff, Nat.reduceEqDiff, Nat.reduceLT, ↓reduceIte, List.length_cons, List.length_nil, List.set_cons_zero, List.set_cons_succ, Nat.le_refl, Nat.zero_le, Nat.zero_sub, Nat.sub_zero, List.nil_append, List.cons_append, Option.toList_some, Option.toList_none, eq_self, n8, t8, Nat.reduceLeDiff, ↓kc.ob (by omega), hb]
  refine XZ.abs2 (P := fun M' => kP M M' c 11 [.int 0, .int 0, .int 0, .ref (c + 1), .ref (c + 3), .ref (c + 6), .ref (c + 7), .int 0, .ref (c + 8), .int 0, .ref (c + 9), .int 0, .ref (c + 10), .null, .int 0] ml) (kc.arr (by omega) rfl) (fun Md kd => ?_)
  refine XZ.runH 60 [15, 26, 41, 50, 59, 67, 75, 83, 92, 101, 111] ?_
  simp only [n2, t2, ↓xh, ↓xst, ↓xrunE, ↓rG, rL, rSt, updA, List.elem_nil, List.elem_cons, Nat.reduceBEq, Bool.false_eq_true, if_false, if_true, true_and, and_true, true_or, or_true, not_false_eq_true, Nat.reduceAdd, Nat.reduceSub, Nat.reduceLeDiff, Nat.reduceEqDiff, Nat.reduceLT, ↓reduceIte, List.length_cons, List.length_nil, List.set_cons_zero, List.set_cons_succ, Nat.le_refl, Nat.zero_le, Nat.zero_sub, Nat.sub_zero, List.nil_append, List.cons_append, Option.toList_some, Option.toList_none, eq_self, n16, t16, Nat.reduceLeDiff, ↓kd.ob (by omega), hb]
  refine XZ.abs2 (P := fun M' => kP M M' c 12 [.int 0, .int 0, .int 0, .ref (c + 1), .ref (c + 3), .ref (c + 6), .ref (c + 7), .int 0, .ref (c + 8), .int 0, .ref (c + 9), .int 0, .ref (c + 10), .ref (c + 11), .int 0] ml) (kd.arr (by omega) rfl) (fun Me ke => ?_)
  refine XZ.runH 60 [] ?_
  simp only [n2, t2, ↓xh, ↓xst, ↓xrunE, ↓rG, rL, rSt, updA, List.elem_nil, List.elem_cons, Nat.reduceBEq, Bool.false_eq_true, if_false, if_true, true_and, and_true, true_or, or_true, not_false_eq_true, Nat.reduceAdd, Nat.reduceSub, Nat.reduceLeDiff, Nat.reduceEqDiff, Nat.reduceLT, ↓reduceIte, List.length_cons, List.length_nil, List.set_cons_zero, List.set_cons_succ, Nat.le_refl, Nat.zero_le, Nat.zero_sub, Nat.sub_zero, List.nil_append, List.cons_append, Option.toList_some, Option.toList_none, eq_self, ↓cO ke.1, ↓xoP, xpp, hb]
  exact hq _ ml hml (ke.pf (by omega))
end CON
