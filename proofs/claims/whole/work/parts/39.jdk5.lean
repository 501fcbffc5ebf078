set_option maxRecDepth 100000 in
set_option maxHeartbeats 4000000 in
theorem jm133 {E : xE} {M : xM} {b p cap cnt nx cb sb : Nat} {x : Int32} {f : Nat → Int32} {Q : Option Value → xM → Nat → Prop} (hb : xb E ≤ b) (hpb : xb E ≤ p) (h : jT M b p cap cnt f) (hc : cnt < cap) (hx : rCh x)
    (hq : ∀ M', jT M' b p cap (cnt + 1) (fun k => if k = cnt then x else f k) → (∀ q, q ≠ b → q ≠ p → M' q = M q) → Q (some (.ref b)) M' nx) :
    XZ E 133 (xZ E 133 Q) 10 [some (.ref b), some (.int x)] [] M nx cb sb := by
  obtain ⟨⟨ml, hml, ho⟩, h2, h3, h4, h5⟩ := id h
  have ne : p ≠ b := fun z => by rw [z, ho] at h2; cases h2
  have e8 : x.toInt8.toInt32 = x := by obtain ⟨c, hc, rfl⟩ := hx; exact rCh_b c hc
  have n1 : xnar 1 x = x := e8
  have hle : x ≤ 255 := by obtain ⟨c, hc, rfl⟩ := hx; exact (rCh_p c hc).2
  have ic := nIx hc (by omega)
  refine XZ.runH 60 [] ?_
  simp only [n133, n135, t133, ↓xh, ↓xst, ↓xrunE, ↓rG, rL, rSt, updA, List.elem_nil, List.elem_cons, Nat.reduceBEq, Bool.false_eq_true, if_false, if_true, true_and, and_true, true_or, or_true, not_false_eq_true, Nat.reduceAdd, Nat.reduceSub, Nat.reduceLeDiff, Nat.reduceEqDiff, Nat.reduceLT, ↓reduceIte, List.length_cons, List.length_nil, List.set_cons_zero, List.set_cons_succ, Nat.le_refl, Nat.zero_le, Nat.zero_sub, Nat.sub_zero, List.nil_append, List.cons_append, Option.toList_some, Option.toList_none, eq_self, ↓jOb ho]
  refine jc135 h ?_
  refine XZ.runH 60 [] ?_
  simp only [n133, n162, t133, ↓xh, ↓xst, ↓xrunE, ↓rG, rL, rSt, updA, List.elem_nil, List.elem_cons, Nat.reduceBEq, Bool.false_eq_true, if_false, if_true, true_and, and_true, true_or, or_true, not_false_eq_true, Nat.reduceAdd, Nat.reduceSub, Nat.reduceLeDiff, Nat.reduceEqDiff, Nat.reduceLT, ↓reduceIte, List.length_cons, List.length_nil, List.set_cons_zero, List.set_cons_succ, Nat.le_refl, Nat.zero_le, Nat.zero_sub, Nat.sub_zero, List.nil_append, List.cons_append, Option.toList_some, Option.toList_none, eq_self, show ¬ (1 : Int32) = 0 by decide]
  refine jc162 hle ?_
  refine XZ.runH 60 [] ?_
  have pa : ∀ c P, xarr (xput M b c) p P = P 1 cap (fun k => .int (f k)) := fun c P => (show xarr (xput M b c) p P = xarr M p P by unfold xarr; rw [xput_ne ne]).trans (jTA h P)
  simp only [n133, t133, ↓xh, ↓xst, ↓xrunE, ↓rG, rL, rSt, updA, List.elem_nil, List.elem_cons, Nat.reduceBEq, Bool.false_eq_true, if_false, if_true, true_and, and_true, true_or, or_true, not_false_eq_true, Nat.reduceAdd, Nat.reduceSub, Nat.reduceLeDiff, Nat.reduceEqDiff, Nat.reduceLT, ↓reduceIte, List.length_cons, List.length_nil, List.set_cons_zero, List.set_cons_succ, Nat.le_refl, Nat.zero_le, Nat.zero_sub, Nat.sub_zero, List.nil_append, List.cons_append, Option.toList_some, Option.toList_none, eq_self, show ¬ (1 : Int32) = 0 by decide, ↓jOb ho, ↓pa, nI_1, hb, hpb, ic, e8, n1]
  refine hq _ ⟨⟨ml, hml, ?_⟩, ?_, h3, by omega, fun k hk => ?_⟩ (fun q e1 e2 => ?_)
  · rw [xput_ne (Ne.symm ne), xput_same]
  · rw [xput_same]
    congr 4
    funext k
    by_cases z : k = cnt
    · simp [updV, z]
    · simp [updV, z]
  · dsimp only
    split
    · exact hx
    · exact h5 k hk
  · rw [xput_ne e2, xput_ne e1]
set_option maxRecDepth 100000 in
set_option maxHeartbeats 4000000 in
theorem jc133 {E : xE} {M : xM} {b p cap cnt nx : Nat} {x : Int32} {f : Nat → Int32} {Q : Option Value → xM → Nat → Prop} (hn : xb E ≤ nx) (hb : xb E ≤ b) (hbn : b < nx) (hpb : xb E ≤ p) (hp : p < nx) (h : jT M b p cap cnt f) (hc : cnt < 32) (hx : rCh x)
    (hq : ∀ M' p' cap' g nx', jT M' b p' cap' (cnt + 1) g → (∀ k, k < cnt → g k = f k) → g cnt = x → (p' = p ∨ p' = nx) → nx ≤ nx' → nx' ≤ nx + 1 → p' < nx' → (∀ q, q < nx → q ≠ b → q ≠ p → M' q = M q) → Q (some (.ref b)) M' nx') :
    XC E 133 [.ref b, .int x] M nx Q := by
  obtain ⟨⟨ml, hml, ho⟩, h2, h3, h4, h5⟩ := id h
  refine XC.run 60 [] ?_
  simp only [n133, n134, t133, ↓xh, ↓xst, ↓xrunE, ↓rG, rL, rSt, updA, List.elem_nil, List.elem_cons, Nat.reduceBEq, Bool.false_eq_true, if_false, if_true, true_and, and_true, true_or, or_true, not_false_eq_true, Nat.reduceAdd, Nat.reduceSub, Nat.reduceLeDiff, Nat.reduceEqDiff, Nat.reduceLT, ↓reduceIte, List.length_cons, List.length_nil, List.set_cons_zero, List.set_cons_succ, Nat.le_refl, Nat.zero_le, Nat.zero_sub, Nat.sub_zero, List.nil_append, List.cons_append, Option.toList_some, Option.toList_none, eq_self, ↓jOb ho, nI_1]
  refine jc134 hn hb hbn hp h (c := cnt + 1) (by omega) (fun g => ?_) (fun e1 e2 M1 h1 w1 => ?_)
  · refine jm133 hb hpb h (by omega) hx (fun M2 t2 w2 => ?_)
    refine hq M2 p cap _ nx t2 (fun k hk => if_neg (by omega)) (if_pos rfl) (Or.inl rfl) (Nat.le_refl _) (by omega) hp (fun q _ e1 e2 => w2 q e1 e2)
  · subst e1
    obtain rfl : cnt = 16 := by omega
    refine jm133 hb hn h1 (by omega) hx (fun M2 t2 w2 => ?_)
    refine hq M2 nx 34 _ (nx + 1) t2 (fun k hk => ?_) (if_pos rfl) (Or.inr rfl) (by omega) (by omega) (by omega) (fun q l1 n1 n2 => ?_)
    · rw [if_neg (by omega), if_pos hk]
    · rw [w2 q n1 (by omega), w1 q l1 n1]
set_option maxRecDepth 100000 in
set_option maxHeartbeats 4000000 in
theorem jc159 {E : xE} {M : xM} {b p cap cnt nx : Nat} {x : Int32} {f : Nat → Int32} {Q : Option Value → xM → Nat → Prop} (hn : xb E ≤ nx) (hb : xb E ≤ b) (hbn : b < nx) (hpb : xb E ≤ p) (hp : p < nx) (h : jT M b p cap cnt f) (hc : cnt < 32) (hx : rCh x)
    (hq : ∀ M' p' cap' g nx', jT M' b p' cap' (cnt + 1) g → (∀ k, k < cnt → g k = f k) → g cnt = x → (p' = p ∨ p' = nx) → nx ≤ nx' → nx' ≤ nx + 1 → p' < nx' → (∀ q, q < nx → q ≠ b → q ≠ p → M' q = M q) → Q (some (.ref b)) M' nx') :
    XC E 159 [.ref b, .int x] M nx Q := by
  obtain ⟨⟨ml, hml, ho⟩, _⟩ := id h
  refine XC.run 60 [] ?_
  simp only [n159, n133, t159, ↓xh, ↓xst, ↓xrunE, ↓rG, rL, rSt, updA, List.elem_nil, List.elem_cons, Nat.reduceBEq, Bool.false_eq_true, if_false, if_true, true_and, and_true, true_or, or_true, not_false_eq_true, Nat.reduceAdd, Nat.reduceSub, Nat.reduceLeDiff, Nat.reduceEqDiff, Nat.reduceLT, ↓reduceIte, List.length_cons, List.length_nil, List.set_cons_zero, List.set_cons_succ, Nat.le_refl, Nat.zero_le, Nat.zero_sub, Nat.sub_zero, List.nil_append, List.cons_append, Option.toList_some, Option.toList_none, eq_self, ↓jOb ho]
  refine jc133 hn hb hbn hpb hp h hc hx (fun M' p' cap' g nx' h1 h2 h3 h4 h5 h6 h7 h8 => ?_)
  refine XZ.runH 60 [] ?_
  simp only [n159, t159, ↓xh, ↓xst, ↓xrunE, ↓rG, rL, rSt, updA, List.elem_nil, List.elem_cons, Nat.reduceBEq, Bool.false_eq_true, if_false, if_true, true_and, and_true, true_or, or_true, not_false_eq_true, Nat.reduceAdd, Nat.reduceSub, Nat.reduceLeDiff, Nat.reduceEqDiff, Nat.reduceLT, ↓reduceIte, List.length_cons, List.length_nil, List.set_cons_zero, List.set_cons_succ, Nat.le_refl, Nat.zero_le, Nat.zero_sub, Nat.sub_zero, List.nil_append, List.cons_append, Option.toList_some, Option.toList_none, eq_self]
  exact hq M' p' cap' g nx' h1 h2 h3 h4 h5 h6 h7 h8
