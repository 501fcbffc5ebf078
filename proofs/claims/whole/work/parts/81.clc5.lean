/-! patterns -/
set_option maxRecDepth 100000 in
set_option maxHeartbeats 4000000 in
theorem jd144 {E : xE} {M : xM} {a p n i j nx pe : Nat} {f fe : Nat → Int32} {Q : Option Value → xM → Nat → Prop} (hx : xb E ≤ nx) (hp : p < nx) (h : jS M a p n f) (he : jS M (E.2.2.2 1) pe 0 fe) (hij : i ≤ j) (hj : j ≤ n) (hd : j - i ≤ 34) {P : Nat → Prop} (ha : a < nx) (hPa : P a ∧ P p) (hPe : P (E.2.2.2 1) ∧ P pe) (hle : E.2.2.2 1 < nx ∧ pe < nx) (hPn : P nx ∧ P (nx + 1))
    (hq : ∀ b q g M' nx', jS M' b q (j - i) g → (∀ k, k < j - i → g k = f (i + k)) → jG M M' nx nx' → (P b ∧ P q ∧ b < nx' ∧ q < nx') → Q (some (.ref b)) M' nx') : XC E 144 [.ref a, .int (nI i), .int (nI j)] M nx Q := by
  have hn := h.2.2.1
  refine XC.run 60 [] ?_
  simp only [n144, n148, t144, ↓xh, ↓xst, ↓xrunE, ↓rG, rL, rSt, updA, List.elem_nil, List.elem_cons, Nat.reduceBEq, Bool.false_eq_true, if_false, if_true, true_and, and_true, true_or, or_true, not_false_eq_true, Nat.reduceAdd, Nat.reduceSub, Nat.reduceLeDiff, Nat.reduceEqDiff, Nat.reduceLT, ↓reduceIte, List.length_cons, List.length_nil, List.set_cons_zero, List.set_cons_succ, Nat.le_refl, Nat.zero_le, Nat.zero_sub, Nat.sub_zero, List.nil_append, List.cons_append, Option.toList_some, Option.toList_none, eq_self, ↓jO h]
  refine jc148 h ?_
  refine XZ.runH 60 [] ?_
  simp only [n144, n151, t144, ↓xh, ↓xst, ↓xrunE, ↓rG, rL, rSt, updA, List.elem_nil, List.elem_cons, Nat.reduceBEq, Bool.false_eq_true, if_false, if_true, true_and, and_true, true_or, or_true, not_false_eq_true, Nat.reduceAdd, Nat.reduceSub, Nat.reduceLeDiff, Nat.reduceEqDiff, Nat.reduceLT, ↓reduceIte, List.length_cons, List.length_nil, List.set_cons_zero, List.set_cons_succ, Nat.le_refl, Nat.zero_le, Nat.zero_sub, Nat.sub_zero, List.nil_append, List.cons_append, Option.toList_some, Option.toList_none, eq_self]
  refine jc151 hij hj (by omega) ?_
  have go : ¬ (i = 0 ∧ j = n) → XZ E 144 (xZ E 144 Q) 22 [some (.ref a), some (.int (nI i)), some (.int (nI j)), some (.int (nI n)), none] [] M nx 2 38 := by
    intro c
    refine XZ.runH 60 [] ?_
    simp only [n144, n152, t144, ↓xh, ↓xst, ↓xrunE, ↓rG, rL, rSt, updA, List.elem_nil, List.elem_cons, Nat.reduceBEq, Bool.false_eq_true, if_false, if_true, true_and, and_true, true_or, or_true, not_false_eq_true, Nat.reduceAdd, Nat.reduceSub, Nat.reduceLeDiff, Nat.reduceEqDiff, Nat.reduceLT, ↓reduceIte, List.length_cons, List.length_nil, List.set_cons_zero, List.set_cons_succ, Nat.le_refl, Nat.zero_le, Nat.zero_sub, Nat.sub_zero, List.nil_append, List.cons_append, Option.toList_some, Option.toList_none, eq_self, nI_subn j i hij, ↓jO h]
    refine jc152 h ?_
    refine XZ.runH 60 [] ?_
    simp only [n144, n163, t144, ↓xh, ↓xst, ↓xrunE, ↓rG, rL, rSt, updA, List.elem_nil, List.elem_cons, Nat.reduceBEq, Bool.false_eq_true, if_false, if_true, true_and, and_true, true_or, or_true, not_false_eq_true, Nat.reduceAdd, Nat.reduceSub, Nat.reduceLeDiff, Nat.reduceEqDiff, Nat.reduceLT, ↓reduceIte, List.length_cons, List.length_nil, List.set_cons_zero, List.set_cons_succ, Nat.le_refl, Nat.zero_le, Nat.zero_sub, Nat.sub_zero, List.nil_append, List.cons_append, Option.toList_some, Option.toList_none, eq_self, show ¬ (1 : Int32) = 0 by decide, ↓jO h]
    refine jc163 hx hp (by omega) (jA h) hn (by omega) hd h.2.2.2 (fun z => ?_) (fun z M' g h1 h2 h3 h4 => ?_)
    · refine XZ.runH 60 [] ?_
      simp only [n144, t144, ↓xh, ↓xst, ↓xrunE, ↓rG, rL, rSt, updA, List.elem_nil, List.elem_cons, Nat.reduceBEq, Bool.false_eq_true, if_false, if_true, true_and, and_true, true_or, or_true, not_false_eq_true, Nat.reduceAdd, Nat.reduceSub, Nat.reduceLeDiff, Nat.reduceEqDiff, Nat.reduceLT, ↓reduceIte, List.length_cons, List.length_nil, List.set_cons_zero, List.set_cons_succ, Nat.le_refl, Nat.zero_le, Nat.zero_sub, Nat.sub_zero, List.nil_append, List.cons_append, Option.toList_some, Option.toList_none, eq_self]
      refine hq _ pe fe M nx (by rw [z]; exact he) (fun k hk => by omega) ⟨Nat.le_refl _, fun _ _ => rfl⟩ ⟨hPe.1, hPe.2, hle.1, hle.2⟩
    · refine XZ.runH 60 [] ?_
      simp only [n144, t144, ↓xh, ↓xst, ↓xrunE, ↓rG, rL, rSt, updA, List.elem_nil, List.elem_cons, Nat.reduceBEq, Bool.false_eq_true, if_false, if_true, true_and, and_true, true_or, or_true, not_false_eq_true, Nat.reduceAdd, Nat.reduceSub, Nat.reduceLeDiff, Nat.reduceEqDiff, Nat.reduceLT, ↓reduceIte, List.length_cons, List.length_nil, List.set_cons_zero, List.set_cons_succ, Nat.le_refl, Nat.zero_le, Nat.zero_sub, Nat.sub_zero, List.nil_append, List.cons_append, Option.toList_some, Option.toList_none, eq_self]
      refine hq nx (nx + 1) g M' (nx + 2) ⟨h1, h2, by omega, fun k hk => ?_⟩ h3 ⟨by omega, fun q hq => h4 q (by omega) (by omega)⟩ ⟨hPn.1, hPn.2, by omega, by omega⟩
      rw [h3 k hk]; exact h.2.2.2 _ (by omega)
  refine XZ.runH 60 [22] ?_
  by_cases c1 : i = 0
  · subst c1
    by_cases c2 : j = n
    · subst c2
      simp only [n144, t144, ↓xh, ↓xst, ↓xrunE, ↓rG, rL, rSt, updA, List.elem_nil, List.elem_cons, Nat.reduceBEq, Bool.false_eq_true, if_false, if_true, true_and, and_true, true_or, or_true, not_false_eq_true, Nat.reduceAdd, Nat.reduceSub, Nat.reduceLeDiff, Nat.reduceEqDiff, Nat.reduceLT, ↓reduceIte, List.length_cons, List.length_nil, List.set_cons_zero, List.set_cons_succ, Nat.le_refl, Nat.zero_le, Nat.zero_sub, Nat.sub_zero, List.nil_append, List.cons_append, Option.toList_some, Option.toList_none, eq_self, show nI 0 = 0 by decide]
      exact hq a p f M nx h (fun k _ => by rw [Nat.zero_add]) ⟨Nat.le_refl _, fun _ _ => rfl⟩ ⟨hPa.1, hPa.2, ha, hp⟩
    · have z : ¬ nI j = nI n := fun z => c2 (nI_inj (by omega) (by omega) z)
      simp only [n144, t144, ↓xh, ↓xst, ↓xrunE, ↓rG, rL, rSt, updA, List.elem_nil, List.elem_cons, Nat.reduceBEq, Bool.false_eq_true, if_false, if_true, true_and, and_true, true_or, or_true, not_false_eq_true, Nat.reduceAdd, Nat.reduceSub, Nat.reduceLeDiff, Nat.reduceEqDiff, Nat.reduceLT, ↓reduceIte, List.length_cons, List.length_nil, List.set_cons_zero, List.set_cons_succ, Nat.le_refl, Nat.zero_le, Nat.zero_sub, Nat.sub_zero, List.nil_append, List.cons_append, Option.toList_some, Option.toList_none, eq_self, show nI 0 = 0 by decide, z]
      exact go (fun y => c2 y.2)
  · have z : ¬ nI i = 0 := fun z => c1 (nI_inj (b := 0) (by omega) (by omega) z)
    simp only [n144, t144, ↓xh, ↓xst, ↓xrunE, ↓rG, rL, rSt, updA, List.elem_nil, List.elem_cons, Nat.reduceBEq, Bool.false_eq_true, if_false, if_true, true_and, and_true, true_or, or_true, not_false_eq_true, Nat.reduceAdd, Nat.reduceSub, Nat.reduceLeDiff, Nat.reduceEqDiff, Nat.reduceLT, ↓reduceIte, List.length_cons, List.length_nil, List.set_cons_zero, List.set_cons_succ, Nat.le_refl, Nat.zero_le, Nat.zero_sub, Nat.sub_zero, List.nil_append, List.cons_append, Option.toList_some, Option.toList_none, eq_self, z]
    exact go (fun y => c1 y.1)
set_option maxRecDepth 100000 in
set_option maxHeartbeats 4000000 in
theorem jd145 {E : xE} {M : xM} {a p n i nx pe : Nat} {f fe : Nat → Int32} {Q : Option Value → xM → Nat → Prop} (hx : xb E ≤ nx) (hp : p < nx) (h : jS M a p n f) (he : jS M (E.2.2.2 1) pe 0 fe) (hij : i ≤ n) (hd : n - i ≤ 34) {P : Nat → Prop} (ha : a < nx) (hPa : P a ∧ P p) (hPe : P (E.2.2.2 1) ∧ P pe) (hle : E.2.2.2 1 < nx ∧ pe < nx) (hPn : P nx ∧ P (nx + 1))
    (hq : ∀ b q g M' nx', jS M' b q (n - i) g → (∀ k, k < n - i → g k = f (i + k)) → jG M M' nx nx' → (P b ∧ P q ∧ b < nx' ∧ q < nx') → Q (some (.ref b)) M' nx') : XC E 145 [.ref a, .int (nI i)] M nx Q := by
  refine XC.run 60 [] ?_
  simp only [n145, n148, t145, ↓xh, ↓xst, ↓xrunE, ↓rG, rL, rSt, updA, List.elem_nil, List.elem_cons, Nat.reduceBEq, Bool.false_eq_true, if_false, if_true, true_and, and_true, true_or, or_true, not_false_eq_true, Nat.reduceAdd, Nat.reduceSub, Nat.reduceLeDiff, Nat.reduceEqDiff, Nat.reduceLT, ↓reduceIte, List.length_cons, List.length_nil, List.set_cons_zero, List.set_cons_succ, Nat.le_refl, Nat.zero_le, Nat.zero_sub, Nat.sub_zero, List.nil_append, List.cons_append, Option.toList_some, Option.toList_none, eq_self, ↓jO h]
  refine jc148 h ?_
  refine XZ.runH 60 [] ?_
  simp only [n145, n144, t145, ↓xh, ↓xst, ↓xrunE, ↓rG, rL, rSt, updA, List.elem_nil, List.elem_cons, Nat.reduceBEq, Bool.false_eq_true, if_false, if_true, true_and, and_true, true_or, or_true, not_false_eq_true, Nat.reduceAdd, Nat.reduceSub, Nat.reduceLeDiff, Nat.reduceEqDiff, Nat.reduceLT, ↓reduceIte, List.length_cons, List.length_nil, List.set_cons_zero, List.set_cons_succ, Nat.le_refl, Nat.zero_le, Nat.zero_sub, Nat.sub_zero, List.nil_append, List.cons_append, Option.toList_some, Option.toList_none, eq_self, ↓jO h]
  refine jd144 hx hp h he hij (Nat.le_refl n) hd ha hPa hPe hle hPn (fun b q g M' nx' h1 h2 h3 h4 => ?_)
  refine XZ.runH 60 [] ?_
  simp only [n145, t145, ↓xh, ↓xst, ↓xrunE, ↓rG, rL, rSt, updA, List.elem_nil, List.elem_cons, Nat.reduceBEq, Bool.false_eq_true, if_false, if_true, true_and, and_true, true_or, or_true, not_false_eq_true, Nat.reduceAdd, Nat.reduceSub, Nat.reduceLeDiff, Nat.reduceEqDiff, Nat.reduceLT, ↓reduceIte, List.length_cons, List.length_nil, List.set_cons_zero, List.set_cons_succ, Nat.le_refl, Nat.zero_le, Nat.zero_sub, Nat.sub_zero, List.nil_append, List.cons_append, Option.toList_some, Option.toList_none, eq_self]
  exact hq b q g M' nx' h1 h2 h3 h4
theorem jG.tr {M M1 M2 : xM} {a b c : Nat} (h : jG M M1 a b) (g : jG M1 M2 b c) : jG M M2 a c := ⟨Nat.le_trans h.1 g.1, fun q hq => (g.2 q (Nat.lt_of_lt_of_le hq h.1)).trans (h.2 q hq)⟩
theorem jG.rf (M : xM) (a : Nat) : jG M M a a := ⟨Nat.le_refl a, fun _ _ => rfl⟩
theorem cx8 : xdef 8 = [.null, .null, .null] := by decide +kernel
/-- a pattern at pt: its three texts -/
def pPt (P : Nat → Prop) (M : xM) (nx pt no : Nat) (go : Nat → Int32) (nt : Nat) (gt : Nat → Int32) (nz : Nat) (gz : Nat → Int32) : Prop := ∃ (o op ty tp z zp : Nat), M pt = some (.inl (8, [.ref o, .ref ty, .ref z])) ∧ jS M o op no go ∧ jS M ty tp nt gt ∧ jS M z zp nz gz ∧ (P pt ∧ P o ∧ P op ∧ P ty ∧ P tp ∧ P z ∧ P zp) ∧ (pt < nx ∧ o < nx ∧ op < nx ∧ ty < nx ∧ tp < nx ∧ z < nx ∧ zp < nx)
section PAT
variable {E : xE} {nx : Nat} {M : xM} {Q : Option Value → xM → Nat → Prop}
set_option maxRecDepth 100000 in
set_option maxHeartbeats 4000000 in
theorem mc73 {p o t z : Nat} (hb : xb E ≤ p) (h : M p = some (.inl (8, [.null, .null, .null]))) (hq : ∀ M', jN M M' p (.inl (8, [.ref o, .ref t, .ref z])) → Q none M' nx) : XC E 73 [.ref p, .ref o, .ref t, .ref z] M nx Q := by
  refine XC.run 60 [] ?_
  simp only [n73, t73, ↓xh, ↓xst, ↓xrunE, ↓rG, rL, rSt, updA, List.elem_nil, List.elem_cons, Nat.reduceBEq, Bool.false_eq_true, if_false, if_true, true_and, and_true, true_or, or_true, not_false_eq_true, Nat.reduceAdd, Nat.reduceSub, Nat.reduceLeDiff, Nat.reduceEqDiff, Nat.reduceLT, ↓reduceIte, List.length_cons, List.length_nil, List.set_cons_zero, List.set_cons_succ, Nat.le_refl, Nat.zero_le, Nat.zero_sub, Nat.sub_zero, List.nil_append, List.cons_append, Option.toList_some, Option.toList_none, eq_self, ↓cO h, ↓xoP, xpp, hb]
  exact hq _ (jN_put M p _)
set_option maxRecDepth 100000 in
set_option maxHeartbeats 4000000 in
theorem mc71 {s : rS} {P : Nat → Prop} {a p n : Nat} {f : Nat → Int32} (hx : xb E ≤ nx) (he : nX E M) (hP : ∀ q, q < xb E ∨ nx ≤ q → P q) (ha : a < nx ∧ p < nx) (hPa : P a ∧ P p) (h : jS M a p n f) (hn : n ≤ 32) (tx : tX f s 0 n)
    (q0 : ∀ M' nx', jG M M' nx nx' → (rPl s 58 n 0 = none ∨ ∃ c, rPl s 58 n 0 = some c ∧ ¬ (rNm s 0 c = true ∧ rNm s (c + 1) n = true)) → Q (some .null) M' nx')
    (q1 : ∀ c M' nx' pt go gt gz, rPl s 58 n 0 = some c → rNm s 0 c = true → rNm s (c + 1) n = true → jG M M' nx nx' → pPt P M' nx' pt c go (n - (c + 1)) gt 1 gz → gz 0 = 42 → tX go s 0 c → tX gt s (c + 1) (n - (c + 1)) → Q (some (.ref pt)) M' nx') : XC E 71 [.ref a] M nx Q := by
  have ix : (jIx f 58 n 0).map (0 + ·) = rPl s 58 n 0 := by have := tIx sm_58 tx n 0 (by omega); simpa using this
  have ix' : rPl s 58 n 0 = jIx f 58 n 0 := by rw [← ix]; cases jIx f 58 n 0 <;> simp
  rw [ix'] at q0 q1
  refine XC.run 60 [] ?_
  simp only [n71, n143, t71, ↓xh, ↓xst, ↓xrunE, ↓rG, rL, rSt, updA, List.elem_nil, List.elem_cons, Nat.reduceBEq, Bool.false_eq_true, if_false, if_true, true_and, and_true, true_or, or_true, not_false_eq_true, Nat.reduceAdd, Nat.reduceSub, Nat.reduceLeDiff, Nat.reduceEqDiff, Nat.reduceLT, ↓reduceIte, List.length_cons, List.length_nil, List.set_cons_zero, List.set_cons_succ, Nat.le_refl, Nat.zero_le, Nat.zero_sub, Nat.sub_zero, List.nil_append, List.cons_append, Option.toList_some, Option.toList_none, eq_self, ↓jO h]
  refine jc143 h ⟨58, by decide, rfl⟩ ?_
  cases hj : jIx f 58 n 0 with
  | none =>
    refine XZ.runH 60 [] ?_
    simp only [n71, t71, ↓xh, ↓xst, ↓xrunE, ↓rG, rL, rSt, updA, List.elem_nil, List.elem_cons, Nat.reduceBEq, Bool.false_eq_true, if_false, if_true, true_and, and_true, true_or, or_true, not_false_eq_true, Nat.reduceAdd, Nat.reduceSub, Nat.reduceLeDiff, Nat.reduceEqDiff, Nat.reduceLT, ↓reduceIte, List.length_cons, List.length_nil, List.set_cons_zero, List.set_cons_succ, Nat.le_refl, Nat.zero_le, Nat.zero_sub, Nat.sub_zero, List.nil_append, List.cons_append, Option.toList_some, Option.toList_none, eq_self, Option.elim, show ¬ (0 : Int32) ≤ -1 by decide]
    exact q0 M nx (jG.rf M nx) (Or.inl hj)
  | some c =>
    have hc := jIx_lt _ _ _ _ _ hj
    have p0 : (0 : Int32) ≤ nI c := k2_le (nI_pos (show c < 2 ^ 31 by omega))
    obtain ⟨_, ⟨pe, fe, je, le1, le2⟩, ⟨ps, fs, jst, es, ls1, ls2⟩, _⟩ := id he
    refine XZ.runH 60 [] ?_
    simp only [n71, n144, t71, ↓xh, ↓xst, ↓xrunE, ↓rG, rL, rSt, updA, List.elem_nil, List.elem_cons, Nat.reduceBEq, Bool.false_eq_true, if_false, if_true, true_and, and_true, true_or, or_true, not_false_eq_true, Nat.reduceAdd, Nat.reduceSub, Nat.reduceLeDiff, Nat.reduceEqDiff, Nat.reduceLT, ↓reduceIte, List.length_cons, List.length_nil, List.set_cons_zero, List.set_cons_succ, Nat.le_refl, Nat.zero_le, Nat.zero_sub, Nat.sub_zero, List.nil_append, List.cons_append, Option.toList_some, Option.toList_none, eq_self, Option.elim, p0, ↓jO h]
    refine jd144 (P := P) (i := 0) (j := c) hx ha.2 h je (by omega) (by omega) (by omega) ha.1 hPa ⟨hP _ (Or.inl le1), hP _ (Or.inl le2)⟩ ⟨by omega, by omega⟩ ⟨hP _ (Or.inr (by omega)), hP _ (Or.inr (by omega))⟩ (fun o op go M1 nx1 jo eo g1 po => ?_)
    rw [Nat.sub_zero] at jo eo
    have h1 : jS M1 a p n f := h.mv (g1.2 _ ha.1) (g1.2 _ ha.2)
    have je1 : jS M1 (E.2.2.2 1) pe 0 fe := je.mv (g1.2 _ (by omega)) (g1.2 _ (by omega))
    have n1 := g1.1
    refine XZ.runH 60 [] ?_
    simp only [n71, n145, t71, ↓xh, ↓xst, ↓xrunE, ↓rG, rL, rSt, updA, List.elem_nil, List.elem_cons, Nat.reduceBEq, Bool.false_eq_true, if_false, if_true, true_and, and_true, true_or, or_true, not_false_eq_true, Nat.reduceAdd, Nat.reduceSub, Nat.reduceLeDiff, Nat.reduceEqDiff, Nat.reduceLT, ↓reduceIte, List.length_cons, List.length_nil, List.set_cons_zero, List.set_cons_succ, Nat.le_refl, Nat.zero_le, Nat.zero_sub, Nat.sub_zero, List.nil_append, List.cons_append, Option.toList_some, Option.toList_none, eq_self, nI_1, ↓jO h1]
    refine jd145 (P := P) (i := c + 1) (by omega) (by omega) h1 je1 (by omega) (by omega) (by omega) hPa ⟨hP _ (Or.inl le1), hP _ (Or.inl le2)⟩ ⟨by omega, by omega⟩ ⟨hP _ (Or.inr (by omega)), hP _ (Or.inr (by omega))⟩ (fun ty tp gt M2 nx2 jt et g2 pt => ?_)
    have g12 := g1.tr g2
    have n2 := g2.1
    have jo2 : jS M2 o op c go := jo.mv (g2.2 _ (by omega)) (g2.2 _ (by omega))
    have he2 : nX E M2 := he.mv (fun q hq => g12.2 q (by omega))
    have txo : tX go s 0 c := by have := tx.sub (i := 0) (m := c) (g := go) (by omega) (fun k hk => eo k hk); simpa using this
    have txt : tX gt s (c + 1) (n - (c + 1)) := by have := tx.sub (i := c + 1) (m := n - (c + 1)) (g := gt) (by omega) (fun k hk => et k hk); simpa using this
    have nmo : nNm go c = rNm s 0 c := by have := tNm txo; rw [Nat.zero_add] at this; exact this
    have nmt : nNm gt (n - (c + 1)) = rNm s (c + 1) n := by have := tNm txt; rw [show c + 1 + (n - (c + 1)) = n by omega] at this; exact this
    refine XZ.runH 60 [] ?_
    simp only [n71, n74, t71, ↓xh, ↓xst, ↓xrunE, ↓rG, rL, rSt, updA, List.elem_nil, List.elem_cons, Nat.reduceBEq, Bool.false_eq_true, if_false, if_true, true_and, and_true, true_or, or_true, not_false_eq_true, Nat.reduceAdd, Nat.reduceSub, Nat.reduceLeDiff, Nat.reduceEqDiff, Nat.reduceLT, ↓reduceIte, List.length_cons, List.length_nil, List.set_cons_zero, List.set_cons_succ, Nat.le_refl, Nat.zero_le, Nat.zero_sub, Nat.sub_zero, List.nil_append, List.cons_append, Option.toList_some, Option.toList_none, eq_self]
    refine nc74 he2.e jo2 ?_
    rw [nmo]
    refine XZ.runH 60 [45] ?_
    by_cases c1 : rNm s 0 c = true
    rotate_left
    · rw [if_neg c1]
      simp only [n71, t71, ↓xh, ↓xst, ↓xrunE, ↓rG, rL, rSt, updA, List.elem_nil, List.elem_cons, Nat.reduceBEq, Bool.false_eq_true, if_false, if_true, true_and, and_true, true_or, or_true, not_false_eq_true, Nat.reduceAdd, Nat.reduceSub, Nat.reduceLeDiff, Nat.reduceEqDiff, Nat.reduceLT, ↓reduceIte, List.length_cons, List.length_nil, List.set_cons_zero, List.set_cons_succ, Nat.le_refl, Nat.zero_le, Nat.zero_sub, Nat.sub_zero, List.nil_append, List.cons_append, Option.toList_some, Option.toList_none, eq_self]
      exact q0 M2 nx2 g12 (Or.inr ⟨c, hj, fun z => c1 z.1⟩)
    rw [if_pos c1]
    simp only [n71, n74, t71, ↓xh, ↓xst, ↓xrunE, ↓rG, rL, rSt, updA, List.elem_nil, List.elem_cons, Nat.reduceBEq, Bool.false_eq_true, if_false, if_true, true_and, and_true, true_or, or_true, not_false_eq_true, Nat.reduceAdd, Nat.reduceSub, Nat.reduceLeDiff, Nat.reduceEqDiff, Nat.reduceLT, ↓reduceIte, List.length_cons, List.length_nil, List.set_cons_zero, List.set_cons_succ, Nat.le_refl, Nat.zero_le, Nat.zero_sub, Nat.sub_zero, List.nil_append, List.cons_append, Option.toList_some, Option.toList_none, eq_self, show ¬ (1 : Int32) = 0 by decide]
    refine nc74 he2.e jt ?_
    rw [nmt]
    refine XZ.runH 60 [45] ?_
    by_cases c2 : rNm s (c + 1) n = true
    rotate_left
    · rw [if_neg c2]
      simp only [n71, t71, ↓xh, ↓xst, ↓xrunE, ↓rG, rL, rSt, updA, List.elem_nil, List.elem_cons, Nat.reduceBEq, Bool.false_eq_true, if_false, if_true, true_and, and_true, true_or, or_true, not_false_eq_true, Nat.reduceAdd, Nat.reduceSub, Nat.reduceLeDiff, Nat.reduceEqDiff, Nat.reduceLT, ↓reduceIte, List.length_cons, List.length_nil, List.set_cons_zero, List.set_cons_succ, Nat.le_refl, Nat.zero_le, Nat.zero_sub, Nat.sub_zero, List.nil_append, List.cons_append, Option.toList_some, Option.toList_none, eq_self]
      exact q0 M2 nx2 g12 (Or.inr ⟨c, hj, fun z => c2 z.2⟩)
    rw [if_pos c2]
    simp only [n71, t71, ↓xh, ↓xst, ↓xrunE, ↓rG, rL, rSt, updA, List.elem_nil, List.elem_cons, Nat.reduceBEq, Bool.false_eq_true, if_false, if_true, true_and, and_true, true_or, or_true, not_false_eq_true, Nat.reduceAdd, Nat.reduceSub, Nat.reduceLeDiff, Nat.reduceEqDiff, Nat.reduceLT, ↓reduceIte, List.length_cons, List.length_nil, List.set_cons_zero, List.set_cons_succ, Nat.le_refl, Nat.zero_le, Nat.zero_sub, Nat.sub_zero, List.nil_append, List.cons_append, Option.toList_some, Option.toList_none, eq_self, show ¬ (1 : Int32) = 0 by decide, cx8]
    refine XZ.abs2 (P := fun M' => jN M2 M' nx2 (.inl (8, [.null, .null, .null]))) (jN_put M2 nx2 _) (fun M3 j3 => ?_)
    refine XZ.runH 60 [] ?_
    simp only [n71, n73, t71, ↓xh, ↓xst, ↓xrunE, ↓rG, rL, rSt, updA, List.elem_nil, List.elem_cons, Nat.reduceBEq, Bool.false_eq_true, if_false, if_true, true_and, and_true, true_or, or_true, not_false_eq_true, Nat.reduceAdd, Nat.reduceSub, Nat.reduceLeDiff, Nat.reduceEqDiff, Nat.reduceLT, ↓reduceIte, List.length_cons, List.length_nil, List.set_cons_zero, List.set_cons_succ, Nat.le_refl, Nat.zero_le, Nat.zero_sub, Nat.sub_zero, List.nil_append, List.cons_append, Option.toList_some, Option.toList_none, eq_self]
    refine mc73 (by omega) j3.1 (fun M4 j4 => ?_)
    refine XZ.runH 60 [] ?_
    simp only [n71, t71, ↓xh, ↓xst, ↓xrunE, ↓rG, rL, rSt, updA, List.elem_nil, List.elem_cons, Nat.reduceBEq, Bool.false_eq_true, if_false, if_true, true_and, and_true, true_or, or_true, not_false_eq_true, Nat.reduceAdd, Nat.reduceSub, Nat.reduceLeDiff, Nat.reduceEqDiff, Nat.reduceLT, ↓reduceIte, List.length_cons, List.length_nil, List.set_cons_zero, List.set_cons_succ, Nat.le_refl, Nat.zero_le, Nat.zero_sub, Nat.sub_zero, List.nil_append, List.cons_append, Option.toList_some, Option.toList_none, eq_self]
    have g24 : ∀ q, q < nx2 → M4 q = M2 q := fun q hq => (j4.2 q (by omega)).trans (j3.2 q (by omega))
    exact q1 c M4 (nx2 + 1) nx2 go gt fs hj c1 c2 ⟨by omega, fun q hq => (g24 q (by omega)).trans (g12.2 q hq)⟩ ⟨o, op, ty, tp, E.2.2.2 2, ps, j4.1, jo2.mv (g24 o (by omega)) (g24 op (by omega)), jt.mv (g24 ty (by omega)) (g24 tp (by omega)), jst.mv ((g24 (E.2.2.2 2) (by omega)).trans (g12.2 (E.2.2.2 2) (by omega))) ((g24 ps (by omega)).trans (g12.2 ps (by omega))), ⟨hP nx2 (Or.inr (by omega)), po.1, po.2.1, pt.1, pt.2.1, hP (E.2.2.2 2) (Or.inl ls1), hP ps (Or.inl ls2)⟩, ⟨Nat.lt_succ_self nx2, by have := po.2.2.1; omega, by have := po.2.2.2; omega, by have := pt.2.2.1; omega, by have := pt.2.2.2; omega, by omega, by omega⟩⟩ es txo txt
end PAT
