/-! the calls that make nothing anew -/
section CAL
variable {E : xE} {B nx : Nat} {M0 M : xM} {A : cA} {v : cV} {s : rS} {Q : Option Value → xM → Nat → Prop}
set_option maxRecDepth 100000 in
set_option maxHeartbeats 4000000 in
theorem mc22 (h : cR E B M0 M A v) (hm : cQ A v s) (hq : Q (some (.int (s.1 48))) M nx) : XC E 22 [.ref (A 0 0)] M nx Q := by
  refine XC.run 60 [] ?_
  simp only [n22, t22, ↓xh, ↓xst, ↓xrunE, ↓rG, rL, rSt, updA, List.elem_nil, List.elem_cons, Nat.reduceBEq, Bool.false_eq_true, if_false, if_true, true_and, and_true, true_or, or_true, not_false_eq_true, Nat.reduceAdd, Nat.reduceSub, Nat.reduceLeDiff, Nat.reduceEqDiff, Nat.reduceLT, ↓reduceIte, List.length_cons, List.length_nil, List.set_cons_zero, List.set_cons_succ, Nat.le_refl, Nat.zero_le, Nat.zero_sub, Nat.sub_zero, List.nil_append, List.cons_append, Option.toList_some, Option.toList_none, eq_self, ↓cFx h, hm.2.2.1.2]
  exact hq
theorem cQ.lin {A : cA} {v : cV} {s : rS} {g : Nat → Int32} {x : Int32} (h : cQ A v s) (g1 : g 1 = x) (g2 : g 2 = s.1 48) : cQ A (uv v 9 0 g) (upd s.1 47 x, s.2) := by
  obtain ⟨m, n, l, sv, se⟩ := h
  refine ⟨m.sm (uv_k (by decide)) (uv_k (by decide)) (uv_k (by decide)) (uv_k (by decide)) rfl rfl (fun j _ _ => rfl), ?_, ?_, fun i hi => ?_, fun c' hc' => ?_⟩
  · unfold cN at n ⊢
    rw [uv_k (by decide)]
    exact n
  · unfold cLn
    rw [uv_s]
    exact ⟨g1, g2⟩
  · exact (sv i hi).cg (by rw [uv_k (by decide)]) (by rw [uv_k (by decide)]) (fun k _ => by rw [uv_k (by decide)]) (rSi'.of rfl (fun j _ _ => rfl) i)
  · exact (se c' hc').cg (by rw [uv_k (by decide)]) (fun j _ _ => rfl)
set_option maxRecDepth 100000 in
set_option maxHeartbeats 4000000 in
theorem mc21 {x : Int32} (h : cR E B M0 M A v) (hm : cQ A v s) (hq : ∀ M' v', cR E B M0 M' A v' → cQ A v' (upd s.1 47 x, s.2) → (∀ kd, kd ≠ 9 → v' kd = v kd) → Q none M' nx) : XC E 21 [.ref (A 0 0), .int x] M nx Q := by
  have l9 : clv A 9 0 := ⟨rfl, by decide⟩
  have hx : xb E ≤ A 0 0 + 6 := h.1.lo l9
  refine XC.run 60 [] ?_
  simp only [n21, t21, ↓xh, ↓xst, ↓xrunE, ↓rG, rL, rSt, updA, List.elem_nil, List.elem_cons, Nat.reduceBEq, Bool.false_eq_true, if_false, if_true, true_and, and_true, true_or, or_true, not_false_eq_true, Nat.reduceAdd, Nat.reduceSub, Nat.reduceLeDiff, Nat.reduceEqDiff, Nat.reduceLT, ↓reduceIte, List.length_cons, List.length_nil, List.set_cons_zero, List.set_cons_succ, Nat.le_refl, Nat.zero_le, Nat.zero_sub, Nat.sub_zero, List.nil_append, List.cons_append, Option.toList_some, Option.toList_none, eq_self, ↓cFx h, hx]
  exact hq _ _ (h.pw 9 0 l9 (w [0, x, v 9 0 2]) rfl rfl) (hm.lin rfl hm.2.2.1.2) (fun kd hk => uv_k hk)
set_option maxRecDepth 100000 in
set_option maxHeartbeats 4000000 in
theorem mc17 {x : Int32} (h : cR E B M0 M A v) (hm : cQ A v s) (hq : Q (some (.int (rStatus s x))) M nx) : XC E 17 [.ref (A 0 0), .int x] M nx Q := by
  have hX := h.1.2.2.2.2.1
  obtain ⟨_, _, n9, n34⟩ := hm.2.1.2.1
  rw [rStatus, n34] at hq
  refine XC.run 60 [] ?_
  simp only [n17, n29, t17, ↓xh, ↓xst, ↓xrunE, ↓rG, rL, rSt, updA, List.elem_nil, List.elem_cons, Nat.reduceBEq, Bool.false_eq_true, if_false, if_true, true_and, and_true, true_or, or_true, not_false_eq_true, Nat.reduceAdd, Nat.reduceSub, Nat.reduceLeDiff, Nat.reduceEqDiff, Nat.reduceLT, ↓reduceIte, List.length_cons, List.length_nil, List.set_cons_zero, List.set_cons_succ, Nat.le_refl, Nat.zero_le, Nat.zero_sub, Nat.sub_zero, List.nil_append, List.cons_append, Option.toList_some, Option.toList_none, eq_self, ↓cFx h]
  refine mc29 h n9 ?_
  refine XZ.runH 60 [] ?_
  by_cases a : x < 0 ∨ nI (A 2 3) ≤ x
  · rw [if_pos a] at hq ⊢
    simp only [n17, t17, ↓xh, ↓xst, ↓xrunE, ↓rG, rL, rSt, updA, List.elem_nil, List.elem_cons, Nat.reduceBEq, Bool.false_eq_true, if_false, if_true, true_and, and_true, true_or, or_true, not_false_eq_true, Nat.reduceAdd, Nat.reduceSub, Nat.reduceLeDiff, Nat.reduceEqDiff, Nat.reduceLT, ↓reduceIte, List.length_cons, List.length_nil, List.set_cons_zero, List.set_cons_succ, Nat.le_refl, Nat.zero_le, Nat.zero_sub, Nat.sub_zero, List.nil_append, List.cons_append, Option.toList_some, Option.toList_none, eq_self]
    exact hq
  · rw [if_neg a] at hq ⊢
    obtain ⟨c, hc, rfl⟩ := nIv (X := A 2 3) (fun z => a (Or.inl z)) (fun z => a (Or.inr z)) (by omega)
    rw [nI_clamp (by omega)] at hq
    have ic := nIx (show c < 12 by omega)
    obtain ⟨_, ⟨f3, f4, f5, f6, _⟩, _⟩ := hm.2.2.2.2 c hc
    by_cases d : s.2 28 c = 0
    · rw [if_pos d] at hq
      simp only [n17, t17, ↓xh, ↓xst, ↓xrunE, ↓rG, rL, rSt, updA, List.elem_nil, List.elem_cons, Nat.reduceBEq, Bool.false_eq_true, if_false, if_true, true_and, and_true, true_or, or_true, not_false_eq_true, Nat.reduceAdd, Nat.reduceSub, Nat.reduceLeDiff, Nat.reduceEqDiff, Nat.reduceLT, ↓reduceIte, List.length_cons, List.length_nil, List.set_cons_zero, List.set_cons_succ, Nat.le_refl, Nat.zero_le, Nat.zero_sub, Nat.sub_zero, List.nil_append, List.cons_append, Option.toList_some, Option.toList_none, eq_self, show ¬ (1 : Int32) = 0 by decide, ↓cFx h, ic, hc, ↓cSe h hc, f3, f6, d]
      exact hq
    · rw [if_neg d] at hq
      simp only [n17, t17, ↓xh, ↓xst, ↓xrunE, ↓rG, rL, rSt, updA, List.elem_nil, List.elem_cons, Nat.reduceBEq, Bool.false_eq_true, if_false, if_true, true_and, and_true, true_or, or_true, not_false_eq_true, Nat.reduceAdd, Nat.reduceSub, Nat.reduceLeDiff, Nat.reduceEqDiff, Nat.reduceLT, ↓reduceIte, List.length_cons, List.length_nil, List.set_cons_zero, List.set_cons_succ, Nat.le_refl, Nat.zero_le, Nat.zero_sub, Nat.sub_zero, List.nil_append, List.cons_append, Option.toList_some, Option.toList_none, eq_self, show ¬ (1 : Int32) = 0 by decide, ↓cFx h, ic, hc, ↓cSe h hc, f3, f6, d]
      exact hq
set_option maxRecDepth 100000 in
set_option maxHeartbeats 4000000 in
theorem mc18 {x : Int32} (h : cR E B M0 M A v) (hm : cQ A v s) (hq : Q (some (.int (rReply s x))) M nx) : XC E 18 [.ref (A 0 0), .int x] M nx Q := by
  have hX := h.1.2.2.2.2.1
  obtain ⟨_, _, n9, n34⟩ := hm.2.1.2.1
  rw [rReply, n34] at hq
  refine XC.run 60 [] ?_
  simp only [n18, n29, t18, ↓xh, ↓xst, ↓xrunE, ↓rG, rL, rSt, updA, List.elem_nil, List.elem_cons, Nat.reduceBEq, Bool.false_eq_true, if_false, if_true, true_and, and_true, true_or, or_true, not_false_eq_true, Nat.reduceAdd, Nat.reduceSub, Nat.reduceLeDiff, Nat.reduceEqDiff, Nat.reduceLT, ↓reduceIte, List.length_cons, List.length_nil, List.set_cons_zero, List.set_cons_succ, Nat.le_refl, Nat.zero_le, Nat.zero_sub, Nat.sub_zero, List.nil_append, List.cons_append, Option.toList_some, Option.toList_none, eq_self, ↓cFx h]
  refine mc29 h n9 ?_
  refine XZ.runH 60 [] ?_
  by_cases a : x < 0 ∨ nI (A 2 3) ≤ x
  · rw [if_pos a] at hq ⊢
    simp only [n18, t18, ↓xh, ↓xst, ↓xrunE, ↓rG, rL, rSt, updA, List.elem_nil, List.elem_cons, Nat.reduceBEq, Bool.false_eq_true, if_false, if_true, true_and, and_true, true_or, or_true, not_false_eq_true, Nat.reduceAdd, Nat.reduceSub, Nat.reduceLeDiff, Nat.reduceEqDiff, Nat.reduceLT, ↓reduceIte, List.length_cons, List.length_nil, List.set_cons_zero, List.set_cons_succ, Nat.le_refl, Nat.zero_le, Nat.zero_sub, Nat.sub_zero, List.nil_append, List.cons_append, Option.toList_some, Option.toList_none, eq_self]
    exact hq
  · rw [if_neg a] at hq ⊢
    obtain ⟨c, hc, rfl⟩ := nIv (X := A 2 3) (fun z => a (Or.inl z)) (fun z => a (Or.inr z)) (by omega)
    rw [nI_clamp (by omega)] at hq
    have ic := nIx (show c < 12 by omega)
    obtain ⟨_, ⟨_, _, _, _, _, _, _, _, _, f12⟩, _⟩ := hm.2.2.2.2 c hc
    simp only [n18, t18, ↓xh, ↓xst, ↓xrunE, ↓rG, rL, rSt, updA, List.elem_nil, List.elem_cons, Nat.reduceBEq, Bool.false_eq_true, if_false, if_true, true_and, and_true, true_or, or_true, not_false_eq_true, Nat.reduceAdd, Nat.reduceSub, Nat.reduceLeDiff, Nat.reduceEqDiff, Nat.reduceLT, ↓reduceIte, List.length_cons, List.length_nil, List.set_cons_zero, List.set_cons_succ, Nat.le_refl, Nat.zero_le, Nat.zero_sub, Nat.sub_zero, List.nil_append, List.cons_append, Option.toList_some, Option.toList_none, eq_self, show ¬ (1 : Int32) = 0 by decide, ↓cFx h, ic, hc, ↓cSe h hc, f12]
    exact hq
set_option maxRecDepth 100000 in
set_option maxHeartbeats 4000000 in
theorem mc19 {x : Int32} (h : cR E B M0 M A v) (hm : cQ A v s) (hq : Q (some (.int (rMissing s x))) M nx) : XC E 19 [.ref (A 0 0), .int x] M nx Q := by
  have hX := h.1.2.2.2.2.1
  obtain ⟨_, _, n9, n34⟩ := hm.2.1.2.1
  rw [rMissing, n34] at hq
  refine XC.run 60 [] ?_
  simp only [n19, n29, t19, ↓xh, ↓xst, ↓xrunE, ↓rG, rL, rSt, updA, List.elem_nil, List.elem_cons, Nat.reduceBEq, Bool.false_eq_true, if_false, if_true, true_and, and_true, true_or, or_true, not_false_eq_true, Nat.reduceAdd, Nat.reduceSub, Nat.reduceLeDiff, Nat.reduceEqDiff, Nat.reduceLT, ↓reduceIte, List.length_cons, List.length_nil, List.set_cons_zero, List.set_cons_succ, Nat.le_refl, Nat.zero_le, Nat.zero_sub, Nat.sub_zero, List.nil_append, List.cons_append, Option.toList_some, Option.toList_none, eq_self, ↓cFx h]
  refine mc29 h n9 ?_
  refine XZ.runH 60 [] ?_
  by_cases a : x < 0 ∨ nI (A 2 3) ≤ x
  · rw [if_pos a] at hq ⊢
    simp only [n19, t19, ↓xh, ↓xst, ↓xrunE, ↓rG, rL, rSt, updA, List.elem_nil, List.elem_cons, Nat.reduceBEq, Bool.false_eq_true, if_false, if_true, true_and, and_true, true_or, or_true, not_false_eq_true, Nat.reduceAdd, Nat.reduceSub, Nat.reduceLeDiff, Nat.reduceEqDiff, Nat.reduceLT, ↓reduceIte, List.length_cons, List.length_nil, List.set_cons_zero, List.set_cons_succ, Nat.le_refl, Nat.zero_le, Nat.zero_sub, Nat.sub_zero, List.nil_append, List.cons_append, Option.toList_some, Option.toList_none, eq_self]
    exact hq
  · rw [if_neg a] at hq ⊢
    obtain ⟨c, hc, rfl⟩ := nIv (X := A 2 3) (fun z => a (Or.inl z)) (fun z => a (Or.inr z)) (by omega)
    rw [nI_clamp (by omega)] at hq
    have ic := nIx (show c < 12 by omega)
    obtain ⟨_, ⟨_, _, _, _, _, _, f9, _⟩, _⟩ := hm.2.2.2.2 c hc
    simp only [n19, t19, ↓xh, ↓xst, ↓xrunE, ↓rG, rL, rSt, updA, List.elem_nil, List.elem_cons, Nat.reduceBEq, Bool.false_eq_true, if_false, if_true, true_and, and_true, true_or, or_true, not_false_eq_true, Nat.reduceAdd, Nat.reduceSub, Nat.reduceLeDiff, Nat.reduceEqDiff, Nat.reduceLT, ↓reduceIte, List.length_cons, List.length_nil, List.set_cons_zero, List.set_cons_succ, Nat.le_refl, Nat.zero_le, Nat.zero_sub, Nat.sub_zero, List.nil_append, List.cons_append, Option.toList_some, Option.toList_none, eq_self, show ¬ (1 : Int32) = 0 by decide, ↓cFx h, ic, hc, ↓cSe h hc, f9]
    exact hq
set_option maxRecDepth 100000 in
set_option maxHeartbeats 4000000 in
theorem mc20 {x k : Int32} (h : cR E B M0 M A v) (hm : cQ A v s) (hq : Q (some (.int (rLedger s (A 2 2) x k))) M nx) : XC E 20 [.ref (A 0 0), .int x, .int k] M nx Q := by
  have hS := h.1.2.2.2.1
  obtain ⟨n7, n22, _, _⟩ := hm.2.1.2.1
  rw [rLedger] at hq
  refine XC.run 60 [] ?_
  simp only [n20, n25, t20, ↓xh, ↓xst, ↓xrunE, ↓rG, rL, rSt, updA, List.elem_nil, List.elem_cons, Nat.reduceBEq, Bool.false_eq_true, if_false, if_true, true_and, and_true, true_or, or_true, not_false_eq_true, Nat.reduceAdd, Nat.reduceSub, Nat.reduceLeDiff, Nat.reduceEqDiff, Nat.reduceLT, ↓reduceIte, List.length_cons, List.length_nil, List.set_cons_zero, List.set_cons_succ, Nat.le_refl, Nat.zero_le, Nat.zero_sub, Nat.sub_zero, List.nil_append, List.cons_append, Option.toList_some, Option.toList_none, eq_self, ↓cFx h]
  refine mc25 h n7 ?_
  refine XZ.runH 60 [] ?_
  by_cases a : x < 0 ∨ nI (A 2 2) ≤ x
  · rw [if_pos a]
    rw [if_pos (by rcases a with a | a <;> simp [a])] at hq
    simp only [n20, t20, ↓xh, ↓xst, ↓xrunE, ↓rG, rL, rSt, updA, List.elem_nil, List.elem_cons, Nat.reduceBEq, Bool.false_eq_true, if_false, if_true, true_and, and_true, true_or, or_true, not_false_eq_true, Nat.reduceAdd, Nat.reduceSub, Nat.reduceLeDiff, Nat.reduceEqDiff, Nat.reduceLT, ↓reduceIte, List.length_cons, List.length_nil, List.set_cons_zero, List.set_cons_succ, Nat.le_refl, Nat.zero_le, Nat.zero_sub, Nat.sub_zero, List.nil_append, List.cons_append, Option.toList_some, Option.toList_none, eq_self]
    exact hq
  · rw [if_neg a]
    obtain ⟨i, hi, rfl⟩ := nIv (X := A 2 2) (fun z => a (Or.inl z)) (fun z => a (Or.inr z)) (by omega)
    rw [nI_clamp (by omega)] at hq
    have ii := nIx (show i < 16 by omega)
    simp only [n20, n61, t20, ↓xh, ↓xst, ↓xrunE, ↓rG, rL, rSt, updA, List.elem_nil, List.elem_cons, Nat.reduceBEq, Bool.false_eq_true, if_false, if_true, true_and, and_true, true_or, or_true, not_false_eq_true, Nat.reduceAdd, Nat.reduceSub, Nat.reduceLeDiff, Nat.reduceEqDiff, Nat.reduceLT, ↓reduceIte, List.length_cons, List.length_nil, List.set_cons_zero, List.set_cons_succ, Nat.le_refl, Nat.zero_le, Nat.zero_sub, Nat.sub_zero, List.nil_append, List.cons_append, Option.toList_some, Option.toList_none, eq_self, show ¬ (1 : Int32) = 0 by decide, ↓cFx h, ii, hi, ↓cSv h hi]
    refine mc61 h hi (hm.2.2.2.1 i hi) ?_
    refine XZ.runH 20 [] ?_
    simp only [n20, t20, ↓xh, ↓xst, ↓xrunE, ↓rG, rL, rSt, updA, List.elem_nil, List.elem_cons, Nat.reduceBEq, Bool.false_eq_true, if_false, if_true, true_and, and_true, true_or, or_true, not_false_eq_true, Nat.reduceAdd, Nat.reduceSub, Nat.reduceLeDiff, Nat.reduceEqDiff, Nat.reduceLT, ↓reduceIte, List.length_cons, List.length_nil, List.set_cons_zero, List.set_cons_succ, Nat.le_refl, Nat.zero_le, Nat.zero_sub, Nat.sub_zero, List.nil_append, List.cons_append, Option.toList_some, Option.toList_none, eq_self]
    rw [rAcc]
    by_cases b : k < 0 ∨ 5 < k
    · rw [if_pos (by rcases b with b | b <;> simp [b])] at hq
      rw [if_pos b]
      exact hq
    · rw [if_neg (by rintro (z | z | z); exact a (Or.inl z); exact a (Or.inr z); exact b z)] at hq
      rw [if_neg b]
      exact hq
set_option maxRecDepth 100000 in
set_option maxHeartbeats 4000000 in
theorem mc11 {x : Int32} {F : Nat} (h : cR E B M0 M A v) (hF : F ≤ 16) (e33 : s.1 33 = nI F) (e11 : v 0 0 11 = s.1 33) (e25 : v 1 0 = s.2 25) (hq : Q (some (.int (rFound s x))) M nx) : XC E 11 [.ref (A 0 0), .int x] M nx Q := by
  rw [rFound, e33] at hq
  refine XC.run 60 [] ?_
  by_cases a : x < 0
  · rw [if_pos (Or.inl a)] at hq
    simp only [n11, t11, ↓xh, ↓xst, ↓xrunE, ↓rG, rL, rSt, updA, List.elem_nil, List.elem_cons, Nat.reduceBEq, Bool.false_eq_true, if_false, if_true, true_and, and_true, true_or, or_true, not_false_eq_true, Nat.reduceAdd, Nat.reduceSub, Nat.reduceLeDiff, Nat.reduceEqDiff, Nat.reduceLT, ↓reduceIte, List.length_cons, List.length_nil, List.set_cons_zero, List.set_cons_succ, Nat.le_refl, Nat.zero_le, Nat.zero_sub, Nat.sub_zero, List.nil_append, List.cons_append, Option.toList_some, Option.toList_none, eq_self, lT a]
    exact hq
  by_cases b : nI F ≤ x
  · rw [if_pos (Or.inr b)] at hq
    simp only [n11, t11, ↓xh, ↓xst, ↓xrunE, ↓rG, rL, rSt, updA, List.elem_nil, List.elem_cons, Nat.reduceBEq, Bool.false_eq_true, if_false, if_true, true_and, and_true, true_or, or_true, not_false_eq_true, Nat.reduceAdd, Nat.reduceSub, Nat.reduceLeDiff, Nat.reduceEqDiff, Nat.reduceLT, ↓reduceIte, List.length_cons, List.length_nil, List.set_cons_zero, List.set_cons_succ, Nat.le_refl, Nat.zero_le, Nat.zero_sub, Nat.sub_zero, List.nil_append, List.cons_append, Option.toList_some, Option.toList_none, eq_self, lF a, ↓cFx h, e11, e33, eT b]
    exact hq
  · rw [if_neg (by simp [a, b])] at hq
    obtain ⟨k, hk, rfl⟩ := nIv (X := F) a b (by omega)
    rw [nI_clamp (by omega)] at hq
    have ik := nIx (show k < 16 by omega)
    simp only [n11, t11, ↓xh, ↓xst, ↓xrunE, ↓rG, rL, rSt, updA, List.elem_nil, List.elem_cons, Nat.reduceBEq, Bool.false_eq_true, if_false, if_true, true_and, and_true, true_or, or_true, not_false_eq_true, Nat.reduceAdd, Nat.reduceSub, Nat.reduceLeDiff, Nat.reduceEqDiff, Nat.reduceLT, ↓reduceIte, List.length_cons, List.length_nil, List.set_cons_zero, List.set_cons_succ, Nat.le_refl, Nat.zero_le, Nat.zero_sub, Nat.sub_zero, List.nil_append, List.cons_append, Option.toList_some, Option.toList_none, eq_self, lF a, ↓cFx h, e11, e33, eF b, ik, e25]
    exact hq
set_option maxRecDepth 100000 in
set_option maxHeartbeats 4000000 in
theorem mc14 {a b : Int32} (h : cR E B M0 M A v) (hm : cM A v s) (hq : Q (some (.int (rHops s (A 2 1) (A 2 0) a b))) M nx) : XC E 14 [.ref (A 0 0), .int a, .int b] M nx Q := by
  have hN := h.1.2.1
  rw [rHops] at hq
  refine XC.run 60 [] ?_
  simp only [n14, n42, t14, ↓xh, ↓xst, ↓xrunE, ↓rG, rL, rSt, updA, List.elem_nil, List.elem_cons, Nat.reduceBEq, Bool.false_eq_true, if_false, if_true, true_and, and_true, true_or, or_true, not_false_eq_true, Nat.reduceAdd, Nat.reduceSub, Nat.reduceLeDiff, Nat.reduceEqDiff, Nat.reduceLT, ↓reduceIte, List.length_cons, List.length_nil, List.set_cons_zero, List.set_cons_succ, Nat.le_refl, Nat.zero_le, Nat.zero_sub, Nat.sub_zero, List.nil_append, List.cons_append, Option.toList_some, Option.toList_none, eq_self, ↓cFx h]
  refine mc42 h hm ?_
  refine XZ.runH 60 [] ?_
  by_cases c : a < 0 ∨ nI (A 2 0) ≤ a
  · rw [if_pos c]
    rw [if_pos (by rcases c with c | c <;> simp [c])] at hq
    simp only [n14, t14, ↓xh, ↓xst, ↓xrunE, ↓rG, rL, rSt, updA, List.elem_nil, List.elem_cons, Nat.reduceBEq, Bool.false_eq_true, if_false, if_true, true_and, and_true, true_or, or_true, not_false_eq_true, Nat.reduceAdd, Nat.reduceSub, Nat.reduceLeDiff, Nat.reduceEqDiff, Nat.reduceLT, ↓reduceIte, List.length_cons, List.length_nil, List.set_cons_zero, List.set_cons_succ, Nat.le_refl, Nat.zero_le, Nat.zero_sub, Nat.sub_zero, List.nil_append, List.cons_append, Option.toList_some, Option.toList_none, eq_self]
    exact hq
  rw [if_neg c]
  simp only [n14, n42, t14, ↓xh, ↓xst, ↓xrunE, ↓rG, rL, rSt, updA, List.elem_nil, List.elem_cons, Nat.reduceBEq, Bool.false_eq_true, if_false, if_true, true_and, and_true, true_or, or_true, not_false_eq_true, Nat.reduceAdd, Nat.reduceSub, Nat.reduceLeDiff, Nat.reduceEqDiff, Nat.reduceLT, ↓reduceIte, List.length_cons, List.length_nil, List.set_cons_zero, List.set_cons_succ, Nat.le_refl, Nat.zero_le, Nat.zero_sub, Nat.sub_zero, List.nil_append, List.cons_append, Option.toList_some, Option.toList_none, eq_self, show ¬ (1 : Int32) = 0 by decide, ↓cFx h]
  refine mc42 h hm ?_
  refine XZ.runH 60 [] ?_
  by_cases d : b < 0 ∨ nI (A 2 0) ≤ b
  · rw [if_pos d]
    rw [if_pos (by rcases d with d | d <;> simp [d])] at hq
    simp only [n14, t14, ↓xh, ↓xst, ↓xrunE, ↓rG, rL, rSt, updA, List.elem_nil, List.elem_cons, Nat.reduceBEq, Bool.false_eq_true, if_false, if_true, true_and, and_true, true_or, or_true, not_false_eq_true, Nat.reduceAdd, Nat.reduceSub, Nat.reduceLeDiff, Nat.reduceEqDiff, Nat.reduceLT, ↓reduceIte, List.length_cons, List.length_nil, List.set_cons_zero, List.set_cons_succ, Nat.le_refl, Nat.zero_le, Nat.zero_sub, Nat.sub_zero, List.nil_append, List.cons_append, Option.toList_some, Option.toList_none, eq_self]
    exact hq
  rw [if_neg d]
  rw [if_neg (by rintro (z | z | z); exact c (Or.inl z); exact c (Or.inr z); exact d z)] at hq
  obtain ⟨i, hi, rfl⟩ := nIv (X := A 2 0) (fun z => c (Or.inl z)) (fun z => c (Or.inr z)) (by omega)
  obtain ⟨j, hj, rfl⟩ := nIv (X := A 2 0) (fun z => d (Or.inl z)) (fun z => d (Or.inr z)) (by omega)
  rw [nI_clamp (by omega), nI_clamp (by omega)] at hq
  simp only [n14, n43, t14, ↓xh, ↓xst, ↓xrunE, ↓rG, rL, rSt, updA, List.elem_nil, List.elem_cons, Nat.reduceBEq, Bool.false_eq_true, if_false, if_true, true_and, and_true, true_or, or_true, not_false_eq_true, Nat.reduceAdd, Nat.reduceSub, Nat.reduceLeDiff, Nat.reduceEqDiff, Nat.reduceLT, ↓reduceIte, List.length_cons, List.length_nil, List.set_cons_zero, List.set_cons_succ, Nat.le_refl, Nat.zero_le, Nat.zero_sub, Nat.sub_zero, List.nil_append, List.cons_append, Option.toList_some, Option.toList_none, eq_self, show ¬ (1 : Int32) = 0 by decide, ↓cFx h]
  refine mc43 h hm (by omega) (by omega) ?_
  refine XZ.runH 20 [] ?_
  simp only [n14, t14, ↓xh, ↓xst, ↓xrunE, ↓rG, rL, rSt, updA, List.elem_nil, List.elem_cons, Nat.reduceBEq, Bool.false_eq_true, if_false, if_true, true_and, and_true, true_or, or_true, not_false_eq_true, Nat.reduceAdd, Nat.reduceSub, Nat.reduceLeDiff, Nat.reduceEqDiff, Nat.reduceLT, ↓reduceIte, List.length_cons, List.length_nil, List.set_cons_zero, List.set_cons_succ, Nat.le_refl, Nat.zero_le, Nat.zero_sub, Nat.sub_zero, List.nil_append, List.cons_append, Option.toList_some, Option.toList_none, eq_self]
  exact hq
theorem cIn_r {s : rS} {R N r n : Nat} {g : Nat → Int32} (hR : R ≤ 6) (hb : rTb s R N) (hr : r < 6) (hn : n < 8) (e : cE g s (8 * r + n)) : cIn g = if s.2 7 (8 * r + n) < 0 then -1 else s.2 7 (8 * r + n) + 16 * s.2 10 (8 * r + n) + (if s.2 11 (8 * r + n) = 0 then 0 else 64) + 128 * (1 + s.2 8 (8 * r + n)) + 1024 * s.2 9 (8 * r + n) := by
  obtain ⟨e0, e1, e5⟩ := e
  unfold cIn
  by_cases f : s.2 7 (8 * r + n) < 0
  · rw [if_pos f] at e0 ⊢
    rw [if_pos e0]
  · rw [if_neg f] at e0 ⊢
    rw [if_neg (by rw [e0]; decide)]
    obtain ⟨a1, a2, a3, a4⟩ := e1 f
    dsimp only
    rw [a1, a2, a3, a4, e5]
    have k5 : (if ¬ s.2 7 (8 * r + n) < 0 ∧ ¬ s.2 11 (8 * r + n) = 0 then (1 : Int32) else 0) = (if s.2 11 (8 * r + n) = 0 then 0 else 1) := by
      by_cases z : s.2 11 (8 * r + n) = 0 <;> simp [z, f]
    rw [k5]
    obtain ⟨_, _, _, q⟩ := hb.at hr hn f
    rcases q with ⟨_, q1, q2, q3, q4⟩ | ⟨_, d, t, p, hh, q1, q2, q3, q4, q5, q6, q7, q8, q9, q10⟩
    · rw [q2, q4]
      by_cases z : s.2 11 (8 * r + n) = 0
      · simp [z]
      · simp [z]
        rw [Int32.add_assoc, Int32.add_comm (1024 * _) 64, ← Int32.add_assoc]
    · have m1 : ¬ s.2 8 (8 * r + n) = -1 := by rw [q5]; exact nI_m1 (by omega)
      rw [if_neg m1]
      have hc : hh = 0 ∨ hh = 1 ∨ hh = 2 := by omega
      by_cases z : s.2 11 (8 * r + n) = 0
      · rcases hc with rfl | rfl | rfl <;> rw [q10] <;> simp [z, nI] <;> ac_rfl
      · rcases hc with rfl | rfl | rfl <;> rw [q10] <;> simp [z, nI] <;> ac_rfl
set_option maxRecDepth 100000 in
set_option maxHeartbeats 4000000 in
theorem mc13 {a b : Int32} (h : cR E B M0 M A v) (hm : cM A v s) (hq : Q (some (.int (rRoute s (A 2 1) (A 2 0) a b))) M nx) : XC E 13 [.ref (A 0 0), .int a, .int b] M nx Q := by
  have hN := h.1.2.1
  have hR := h.1.2.2.1
  rw [rRoute] at hq
  refine XC.run 60 [] ?_
  simp only [n13, n35, t13, ↓xh, ↓xst, ↓xrunE, ↓rG, rL, rSt, updA, List.elem_nil, List.elem_cons, Nat.reduceBEq, Bool.false_eq_true, if_false, if_true, true_and, and_true, true_or, or_true, not_false_eq_true, Nat.reduceAdd, Nat.reduceSub, Nat.reduceLeDiff, Nat.reduceEqDiff, Nat.reduceLT, ↓reduceIte, List.length_cons, List.length_nil, List.set_cons_zero, List.set_cons_succ, Nat.le_refl, Nat.zero_le, Nat.zero_sub, Nat.sub_zero, List.nil_append, List.cons_append, Option.toList_some, Option.toList_none, eq_self, ↓cFx h]
  refine mc35 h hm.1.2.1 ?_
  refine XZ.runH 60 [] ?_
  by_cases c : a < 0 ∨ nI (A 2 1) ≤ a
  · rw [if_pos c]
    rw [if_pos (by rcases c with c | c <;> simp [c])] at hq
    simp only [n13, t13, ↓xh, ↓xst, ↓xrunE, ↓rG, rL, rSt, updA, List.elem_nil, List.elem_cons, Nat.reduceBEq, Bool.false_eq_true, if_false, if_true, true_and, and_true, true_or, or_true, not_false_eq_true, Nat.reduceAdd, Nat.reduceSub, Nat.reduceLeDiff, Nat.reduceEqDiff, Nat.reduceLT, ↓reduceIte, List.length_cons, List.length_nil, List.set_cons_zero, List.set_cons_succ, Nat.le_refl, Nat.zero_le, Nat.zero_sub, Nat.sub_zero, List.nil_append, List.cons_append, Option.toList_some, Option.toList_none, eq_self]
    exact hq
  rw [if_neg c]
  simp only [n13, n42, t13, ↓xh, ↓xst, ↓xrunE, ↓rG, rL, rSt, updA, List.elem_nil, List.elem_cons, Nat.reduceBEq, Bool.false_eq_true, if_false, if_true, true_and, and_true, true_or, or_true, not_false_eq_true, Nat.reduceAdd, Nat.reduceSub, Nat.reduceLeDiff, Nat.reduceEqDiff, Nat.reduceLT, ↓reduceIte, List.length_cons, List.length_nil, List.set_cons_zero, List.set_cons_succ, Nat.le_refl, Nat.zero_le, Nat.zero_sub, Nat.sub_zero, List.nil_append, List.cons_append, Option.toList_some, Option.toList_none, eq_self, show ¬ (1 : Int32) = 0 by decide, ↓cFx h]
  refine mc42 h hm ?_
  refine XZ.runH 60 [] ?_
  by_cases d : b < 0 ∨ nI (A 2 0) ≤ b
  · rw [if_pos d]
    rw [if_pos (by rcases d with d | d <;> simp [d])] at hq
    simp only [n13, t13, ↓xh, ↓xst, ↓xrunE, ↓rG, rL, rSt, updA, List.elem_nil, List.elem_cons, Nat.reduceBEq, Bool.false_eq_true, if_false, if_true, true_and, and_true, true_or, or_true, not_false_eq_true, Nat.reduceAdd, Nat.reduceSub, Nat.reduceLeDiff, Nat.reduceEqDiff, Nat.reduceLT, ↓reduceIte, List.length_cons, List.length_nil, List.set_cons_zero, List.set_cons_succ, Nat.le_refl, Nat.zero_le, Nat.zero_sub, Nat.sub_zero, List.nil_append, List.cons_append, Option.toList_some, Option.toList_none, eq_self]
    exact hq
  rw [if_neg d]
  rw [if_neg (by rintro (z | z | z); exact c (Or.inl z); exact c (Or.inr z); exact d z)] at hq
  obtain ⟨r, hr, rfl⟩ := nIv (X := A 2 1) (fun z => c (Or.inl z)) (fun z => c (Or.inr z)) (by omega)
  obtain ⟨n, hn, rfl⟩ := nIv (X := A 2 0) (fun z => d (Or.inl z)) (fun z => d (Or.inr z)) (by omega)
  rw [nI_clamp (by omega), nI_clamp (by omega)] at hq
  have n8 : n < 8 := by omega
  have ir := nIx (show r < 6 by omega)
  have i_n := nIx n8
  simp only [n13, n51, t13, ↓xh, ↓xst, ↓xrunE, ↓rG, rL, rSt, updA, List.elem_nil, List.elem_cons, Nat.reduceBEq, Bool.false_eq_true, if_false, if_true, true_and, and_true, true_or, or_true, not_false_eq_true, Nat.reduceAdd, Nat.reduceSub, Nat.reduceLeDiff, Nat.reduceEqDiff, Nat.reduceLT, ↓reduceIte, List.length_cons, List.length_nil, List.set_cons_zero, List.set_cons_succ, Nat.le_refl, Nat.zero_le, Nat.zero_sub, Nat.sub_zero, List.nil_append, List.cons_append, Option.toList_some, Option.toList_none, eq_self, show ¬ (1 : Int32) = 0 by decide, ↓cFx h, ir, i_n, hr, n8, ↓cRo h hr, ↓cEn h hr n8]
  refine ec51 (cEnC h hr n8) ?_
  refine XZ.runH 20 [] ?_
  simp only [n13, t13, ↓xh, ↓xst, ↓xrunE, ↓rG, rL, rSt, updA, List.elem_nil, List.elem_cons, Nat.reduceBEq, Bool.false_eq_true, if_false, if_true, true_and, and_true, true_or, or_true, not_false_eq_true, Nat.reduceAdd, Nat.reduceSub, Nat.reduceLeDiff, Nat.reduceEqDiff, Nat.reduceLT, ↓reduceIte, List.length_cons, List.length_nil, List.set_cons_zero, List.set_cons_succ, Nat.le_refl, Nat.zero_le, Nat.zero_sub, Nat.sub_zero, List.nil_append, List.cons_append, Option.toList_some, Option.toList_none, eq_self]
  rw [cIn_r hR hm.2.2.2 (by omega) n8 (hm.2.2.1 r n hr n8)]
  exact hq
set_option maxRecDepth 100000 in
set_option maxHeartbeats 4000000 in
theorem mc6 {x y : Int32} (h : cR E B M0 M A v) (hm : cQ A v s) (hy : y = 0 ∨ y = 1) (hq : ∀ M' v', cR E B M0 M' A v' → cQ A v' (rPower s (A 2 1) x y).2 → (∀ kd, kd ≠ 10 → kd ≠ 14 → v' kd = v kd) → Q (some (.int (rPower s (A 2 1) x y).1)) M' nx) : XC E 6 [.ref (A 0 0), .int x, .int y] M nx Q := by
  have hR := h.1.2.2.1
  rw [rPower] at hq
  refine XC.run 60 [] ?_
  simp only [n6, n35, t6, ↓xh, ↓xst, ↓xrunE, ↓rG, rL, rSt, updA, List.elem_nil, List.elem_cons, Nat.reduceBEq, Bool.false_eq_true, if_false, if_true, true_and, and_true, true_or, or_true, not_false_eq_true, Nat.reduceAdd, Nat.reduceSub, Nat.reduceLeDiff, Nat.reduceEqDiff, Nat.reduceLT, ↓reduceIte, List.length_cons, List.length_nil, List.set_cons_zero, List.set_cons_succ, Nat.le_refl, Nat.zero_le, Nat.zero_sub, Nat.sub_zero, List.nil_append, List.cons_append, Option.toList_some, Option.toList_none, eq_self, ↓cFx h]
  refine mc35 h hm.1.1.2.1 ?_
  refine XZ.runH 60 [] ?_
  by_cases c : x < 0 ∨ nI (A 2 1) ≤ x
  · rw [if_pos c]
    rw [if_pos (by rcases c with c | c <;> simp [c])] at hq
    simp only [n6, t6, ↓xh, ↓xst, ↓xrunE, ↓rG, rL, rSt, updA, List.elem_nil, List.elem_cons, Nat.reduceBEq, Bool.false_eq_true, if_false, if_true, true_and, and_true, true_or, or_true, not_false_eq_true, Nat.reduceAdd, Nat.reduceSub, Nat.reduceLeDiff, Nat.reduceEqDiff, Nat.reduceLT, ↓reduceIte, List.length_cons, List.length_nil, List.set_cons_zero, List.set_cons_succ, Nat.le_refl, Nat.zero_le, Nat.zero_sub, Nat.sub_zero, List.nil_append, List.cons_append, Option.toList_some, Option.toList_none, eq_self]
    exact hq M v h hm (fun _ _ _ => rfl)
  rw [if_neg c]
  obtain ⟨r, hr, rfl⟩ := nIv (X := A 2 1) (fun z => c (Or.inl z)) (fun z => c (Or.inr z)) (by omega)
  rw [nI_clamp (by omega)] at hq
  have ir := nIx (show r < 6 by omega)
  have q1 := (hm.1.2.1 r hr).1
  by_cases d : s.2 6 r = y
  · rw [if_pos (Or.inr (Or.inr d))] at hq
    simp only [n6, t6, ↓xh, ↓xst, ↓xrunE, ↓rG, rL, rSt, updA, List.elem_nil, List.elem_cons, Nat.reduceBEq, Bool.false_eq_true, if_false, if_true, true_and, and_true, true_or, or_true, not_false_eq_true, Nat.reduceAdd, Nat.reduceSub, Nat.reduceLeDiff, Nat.reduceEqDiff, Nat.reduceLT, ↓reduceIte, List.length_cons, List.length_nil, List.set_cons_zero, List.set_cons_succ, Nat.le_refl, Nat.zero_le, Nat.zero_sub, Nat.sub_zero, List.nil_append, List.cons_append, Option.toList_some, Option.toList_none, eq_self, show ¬ (1 : Int32) = 0 by decide, ↓cFx h, ir, hr, ↓cRo h hr, q1, d]
    exact hq M v h hm (fun _ _ _ => rfl)
  rw [if_neg (by rintro (z | z | z); exact c (Or.inl z); exact c (Or.inr z); exact d z)] at hq
  simp only [n6, n47, t6, ↓xh, ↓xst, ↓xrunE, ↓rG, rL, rSt, updA, List.elem_nil, List.elem_cons, Nat.reduceBEq, Bool.false_eq_true, if_false, if_true, true_and, and_true, true_or, or_true, not_false_eq_true, Nat.reduceAdd, Nat.reduceSub, Nat.reduceLeDiff, Nat.reduceEqDiff, Nat.reduceLT, ↓reduceIte, List.length_cons, List.length_nil, List.set_cons_zero, List.set_cons_succ, Nat.le_refl, Nat.zero_le, Nat.zero_sub, Nat.sub_zero, List.nil_append, List.cons_append, Option.toList_some, Option.toList_none, eq_self, show ¬ (1 : Int32) = 0 by decide, ↓cFx h, ir, hr, ↓cRo h hr, q1, d]
  refine mc47 h hr hy (fun M1 v1 h1 t1 => ?_)
  refine XZ.runH 20 [] ?_
  simp only [n6, t6, ↓xh, ↓xst, ↓xrunE, ↓rG, rL, rSt, updA, List.elem_nil, List.elem_cons, Nat.reduceBEq, Bool.false_eq_true, if_false, if_true, true_and, and_true, true_or, or_true, not_false_eq_true, Nat.reduceAdd, Nat.reduceSub, Nat.reduceLeDiff, Nat.reduceEqDiff, Nat.reduceLT, ↓reduceIte, List.length_cons, List.length_nil, List.set_cons_zero, List.set_cons_succ, Nat.le_refl, Nat.zero_le, Nat.zero_sub, Nat.sub_zero, List.nil_append, List.cons_append, Option.toList_some, Option.toList_none, eq_self]
  have m1 := hm.1.turn hR hr hy t1.1 t1.2.1 t1.2.2.1 t1.2.2.2.1 t1.2.2.2.2
  refine hq M1 v1 h1 (hm.msh m1 (fun f _ => rfl) (fun j hj => ?_) rfl (fun kd hk => t1.1 kd (by omega) (by omega))) t1.1
  rw [rFresh_n (by omega)]
  exact up2_n (by omega)
theorem cQ.drp {A : cA} {v : cV} {s : rS} {i : Nat} (h : cQ A v s) (hi : i < A 2 2) : cQ A (uv v 19 i (w [v 19 i 0, 0, 0, 1, 0, v 19 i 5])) (s.1, up2 s.2 17 i 1) := by
  obtain ⟨s1, s2, s3, s4, s5, s6, L, hL, h20, hl, T, hT, eT, ht⟩ := h.2.2.2.1 i hi
  refine h.svc (i := i) (fun kd a b c => uv_k b) (fun q hq => uv_n (fun z => hq z.2)) (fun q _ => by rw [uv_k (by decide)]) (fun q _ => by rw [uv_k (by decide)]) rfl (fun j hj => up2_n (by omega)) (fun q hq => ⟨rfl, by simp [up2], by simp [up2, hq], fun k _ => by simp [up2], by simp [up2], by simp [up2], fun j e h1 h2 _ => by dsimp only; rw [up2_n (by omega)]⟩) ?_
  have hm : rHm ((s.1, up2 s.2 17 i 1) : rS) i = rHm s i := by unfold rHm; simp [up2]
  refine ⟨by rw [uv_s, hm]; exact s1, by rw [hm]; exact s2, by rw [uv_s]; simp [up2]; rfl, Or.inr (by simp [up2]), by rw [uv_s]; show v 19 i 5 = _; simpa [up2] using s5, fun k hk => by rw [uv_k (by decide)]; simpa [up2] using s6 k hk, L, hL, by simpa [up2] using h20, ?_, T, hT, eT, fun e he => by simpa [up2] using ht e he⟩
  obtain ⟨σ, hl⟩ := hl
  exact ⟨σ, hl.cg (fun k _ => by rw [uv_k (by decide)]) (fun j e a b _ => by dsimp only; rw [up2_n (by omega)])⟩
set_option maxRecDepth 100000 in
set_option maxHeartbeats 4000000 in
theorem mc9 {x : Int32} (h : cR E B M0 M A v) (hm : cQ A v s) (hq : ∀ M' v', cR E B M0 M' A v' → cQ A v' (rDrop s (A 2 2) x).2 → (∀ kd, kd ≠ 19 → v' kd = v kd) → Q (some (.int (rDrop s (A 2 2) x).1)) M' nx) : XC E 9 [.ref (A 0 0), .int x] M nx Q := by
  have hS := h.1.2.2.2.1
  rw [rDrop] at hq
  refine XC.run 60 [] ?_
  simp only [n9, n25, t9, ↓xh, ↓xst, ↓xrunE, ↓rG, rL, rSt, updA, List.elem_nil, List.elem_cons, Nat.reduceBEq, Bool.false_eq_true, if_false, if_true, true_and, and_true, true_or, or_true, not_false_eq_true, Nat.reduceAdd, Nat.reduceSub, Nat.reduceLeDiff, Nat.reduceEqDiff, Nat.reduceLT, ↓reduceIte, List.length_cons, List.length_nil, List.set_cons_zero, List.set_cons_succ, Nat.le_refl, Nat.zero_le, Nat.zero_sub, Nat.sub_zero, List.nil_append, List.cons_append, Option.toList_some, Option.toList_none, eq_self, ↓cFx h]
  refine mc25 h hm.2.1.2.1.1 ?_
  refine XZ.runH 60 [] ?_
  by_cases c : x < 0 ∨ nI (A 2 2) ≤ x
  · rw [if_pos c]
    rw [if_pos (by rcases c with c | c <;> simp [c])] at hq
    simp only [n9, t9, ↓xh, ↓xst, ↓xrunE, ↓rG, rL, rSt, updA, List.elem_nil, List.elem_cons, Nat.reduceBEq, Bool.false_eq_true, if_false, if_true, true_and, and_true, true_or, or_true, not_false_eq_true, Nat.reduceAdd, Nat.reduceSub, Nat.reduceLeDiff, Nat.reduceEqDiff, Nat.reduceLT, ↓reduceIte, List.length_cons, List.length_nil, List.set_cons_zero, List.set_cons_succ, Nat.le_refl, Nat.zero_le, Nat.zero_sub, Nat.sub_zero, List.nil_append, List.cons_append, Option.toList_some, Option.toList_none, eq_self]
    exact hq M v h hm (fun _ _ => rfl)
  rw [if_neg c]
  obtain ⟨i, hi, rfl⟩ := nIv (X := A 2 2) (fun z => c (Or.inl z)) (fun z => c (Or.inr z)) (by omega)
  rw [nI_clamp (by omega)] at hq
  have ii := nIx (show i < 16 by omega)
  have q1 := (hm.2.2.2.1 i hi).2.2.1
  by_cases d : s.2 17 i = 0
  rotate_left
  · rw [if_pos (Or.inr (Or.inr d))] at hq
    simp only [n9, t9, ↓xh, ↓xst, ↓xrunE, ↓rG, rL, rSt, updA, List.elem_nil, List.elem_cons, Nat.reduceBEq, Bool.false_eq_true, if_false, if_true, true_and, and_true, true_or, or_true, not_false_eq_true, Nat.reduceAdd, Nat.reduceSub, Nat.reduceLeDiff, Nat.reduceEqDiff, Nat.reduceLT, ↓reduceIte, List.length_cons, List.length_nil, List.set_cons_zero, List.set_cons_succ, Nat.le_refl, Nat.zero_le, Nat.zero_sub, Nat.sub_zero, List.nil_append, List.cons_append, Option.toList_some, Option.toList_none, eq_self, show ¬ (1 : Int32) = 0 by decide, ↓cFx h, ii, hi, ↓cSv h hi, q1, d]
    exact hq M v h hm (fun _ _ => rfl)
  rw [if_neg (by rintro (z | z | z); exact c (Or.inl z); exact c (Or.inr z); exact z d)] at hq
  have bs : xb E ≤ A 5 i := h.1.lo (kd := 19) (i := i) hi
  simp only [n9, t9, ↓xh, ↓xst, ↓xrunE, ↓rG, rL, rSt, updA, List.elem_nil, List.elem_cons, Nat.reduceBEq, Bool.false_eq_true, if_false, if_true, true_and, and_true, true_or, or_true, not_false_eq_true, Nat.reduceAdd, Nat.reduceSub, Nat.reduceLeDiff, Nat.reduceEqDiff, Nat.reduceLT, ↓reduceIte, List.length_cons, List.length_nil, List.set_cons_zero, List.set_cons_succ, Nat.le_refl, Nat.zero_le, Nat.zero_sub, Nat.sub_zero, List.nil_append, List.cons_append, Option.toList_some, Option.toList_none, eq_self, show ¬ (1 : Int32) = 0 by decide, ↓cFx h, ii, hi, ↓cSv h hi, q1, d, bs]
  exact hq _ _ (h.pw 19 i hi (w [v 19 i 0, 0, 0, 1, 0, v 19 i 5]) rfl rfl) (hm.drp hi) (fun kd hk => uv_k hk)
end CAL
