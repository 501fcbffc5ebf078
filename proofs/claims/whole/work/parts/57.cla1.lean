/-! the mesh: questions -/
theorem cR.pw {E : xE} {B : Nat} {M0 M : xM} {A : cA} {v : cV} (h : cR E B M0 M A v) (kd i : Nat) (hl : clv A kd i) (g : Nat → Int32) {a : Nat} {c : xC} (ea : a = cad A kd i) (ec : c = cct A kd i g) : cR E B M0 (xput M a c) A (uv v kd i g) := by
  subst ea
  subst ec
  exact h.set kd i hl (jN_put _ _ _)
theorem updVi (f : Nat → Int32) (k : Nat) (x : Int32) : updV (fun k => Value.int (f k)) k (.int x) = fun q => Value.int (upd f k x q) := by
  funext q
  unfold updV upd
  split <;> rfl
section MSH
variable {E : xE} {B nx : Nat} {M0 M : xM} {A : cA} {v : cV} {s : rS} {Q : Option Value → xM → Nat → Prop}
set_option maxRecDepth 100000 in
set_option maxHeartbeats 4000000 in
theorem mc42 {x : Int32} (h : cR E B M0 M A v) (hm : cM A v s) (hq : Q (some (.int (if x < 0 ∨ nI (A 2 0) ≤ x then 0 else 1))) M nx) : XC E 42 [.ref (A 0 0 + 3), .int x] M nx Q := by
  refine XC.run 60 [] ?_
  by_cases a : x < 0
  · rw [if_pos (Or.inl a)] at hq
    simp only [n42, t42, ↓xh, ↓xst, ↓xrunE, ↓rG, rL, rSt, updA, List.elem_nil, List.elem_cons, Nat.reduceBEq, Bool.false_eq_true, if_false, if_true, true_and, and_true, true_or, or_true, not_false_eq_true, Nat.reduceAdd, Nat.reduceSub, Nat.reduceLeDiff, Nat.reduceEqDiff, Nat.reduceLT, ↓reduceIte, List.length_cons, List.length_nil, List.set_cons_zero, List.set_cons_succ, Nat.le_refl, Nat.zero_le, Nat.zero_sub, Nat.sub_zero, List.nil_append, List.cons_append, Option.toList_some, Option.toList_none, eq_self, lT a]
    exact hq
  by_cases b : nI (A 2 0) ≤ x
  · rw [if_pos (Or.inr b)] at hq
    simp only [n42, t42, ↓xh, ↓xst, ↓xrunE, ↓rG, rL, rSt, updA, List.elem_nil, List.elem_cons, Nat.reduceBEq, Bool.false_eq_true, if_false, if_true, true_and, and_true, true_or, or_true, not_false_eq_true, Nat.reduceAdd, Nat.reduceSub, Nat.reduceLeDiff, Nat.reduceEqDiff, Nat.reduceLT, ↓reduceIte, List.length_cons, List.length_nil, List.set_cons_zero, List.set_cons_succ, Nat.le_refl, Nat.zero_le, Nat.zero_sub, Nat.sub_zero, List.nil_append, List.cons_append, Option.toList_some, Option.toList_none, eq_self, lF a, ↓cFx h, hm.1.1, eT b]
    exact hq
  · rw [if_neg (by simp [a, b])] at hq
    simp only [n42, t42, ↓xh, ↓xst, ↓xrunE, ↓rG, rL, rSt, updA, List.elem_nil, List.elem_cons, Nat.reduceBEq, Bool.false_eq_true, if_false, if_true, true_and, and_true, true_or, or_true, not_false_eq_true, Nat.reduceAdd, Nat.reduceSub, Nat.reduceLeDiff, Nat.reduceEqDiff, Nat.reduceLT, ↓reduceIte, List.length_cons, List.length_nil, List.set_cons_zero, List.set_cons_succ, Nat.le_refl, Nat.zero_le, Nat.zero_sub, Nat.sub_zero, List.nil_append, List.cons_append, Option.toList_some, Option.toList_none, eq_self, lF a, ↓cFx h, hm.1.1, eF b]
    exact hq
set_option maxRecDepth 100000 in
set_option maxHeartbeats 4000000 in
theorem mc35 {x : Int32} (h : cR E B M0 M A v) (hm : v 4 0 3 = nI (A 2 1)) (hq : Q (some (.int (if x < 0 ∨ nI (A 2 1) ≤ x then 0 else 1))) M nx) : XC E 35 [.ref (A 0 0 + 3), .int x] M nx Q := by
  refine XC.run 60 [] ?_
  by_cases a : x < 0
  · rw [if_pos (Or.inl a)] at hq
    simp only [n35, t35, ↓xh, ↓xst, ↓xrunE, ↓rG, rL, rSt, updA, List.elem_nil, List.elem_cons, Nat.reduceBEq, Bool.false_eq_true, if_false, if_true, true_and, and_true, true_or, or_true, not_false_eq_true, Nat.reduceAdd, Nat.reduceSub, Nat.reduceLeDiff, Nat.reduceEqDiff, Nat.reduceLT, ↓reduceIte, List.length_cons, List.length_nil, List.set_cons_zero, List.set_cons_succ, Nat.le_refl, Nat.zero_le, Nat.zero_sub, Nat.sub_zero, List.nil_append, List.cons_append, Option.toList_some, Option.toList_none, eq_self, lT a]
    exact hq
  by_cases b : nI (A 2 1) ≤ x
  · rw [if_pos (Or.inr b)] at hq
    simp only [n35, t35, ↓xh, ↓xst, ↓xrunE, ↓rG, rL, rSt, updA, List.elem_nil, List.elem_cons, Nat.reduceBEq, Bool.false_eq_true, if_false, if_true, true_and, and_true, true_or, or_true, not_false_eq_true, Nat.reduceAdd, Nat.reduceSub, Nat.reduceLeDiff, Nat.reduceEqDiff, Nat.reduceLT, ↓reduceIte, List.length_cons, List.length_nil, List.set_cons_zero, List.set_cons_succ, Nat.le_refl, Nat.zero_le, Nat.zero_sub, Nat.sub_zero, List.nil_append, List.cons_append, Option.toList_some, Option.toList_none, eq_self, lF a, ↓cFx h, hm, eT b]
    exact hq
  · rw [if_neg (by simp [a, b])] at hq
    simp only [n35, t35, ↓xh, ↓xst, ↓xrunE, ↓rG, rL, rSt, updA, List.elem_nil, List.elem_cons, Nat.reduceBEq, Bool.false_eq_true, if_false, if_true, true_and, and_true, true_or, or_true, not_false_eq_true, Nat.reduceAdd, Nat.reduceSub, Nat.reduceLeDiff, Nat.reduceEqDiff, Nat.reduceLT, ↓reduceIte, List.length_cons, List.length_nil, List.set_cons_zero, List.set_cons_succ, Nat.le_refl, Nat.zero_le, Nat.zero_sub, Nat.sub_zero, List.nil_append, List.cons_append, Option.toList_some, Option.toList_none, eq_self, lF a, ↓cFx h, hm, eF b]
    exact hq
/-- the nodes -/
def cNd (A : cA) (v : cV) (s : rS) : Prop := (∀ n k, n < A 2 0 → k < 8 → v 13 n k = s.2 4 (8 * n + k)) ∧ (∀ i, i < 64 → s.2 4 i = 0 ∨ s.2 4 i = 1) ∧ ∀ i, i < 64 → ¬ s.2 4 i = 0 → i / 8 < A 2 0
theorem Int32_div8 {x : Int32} (h : ¬ x < 0) : ∃ n, n < 2 ^ 31 ∧ x = nI n ∧ x / 8 = nI (n / 8) ∧ x - x / 8 * 8 = nI (n % 8) := by
  obtain ⟨n, hn, rfl⟩ := nI_of h
  have e : nI n / 8 = nI (n / 8) := by
    apply Int32.toInt_inj.mp
    rw [Int32.toInt_div, nI_toInt hn, nI_toInt (by omega)]
    rw [show (8 : Int32).toInt = 8 by decide]
    rw [Int.tdiv_eq_ediv_of_nonneg (by omega)]
    apply Int.bmod_eq_of_le <;> omega
  refine ⟨n, hn, rfl, e, ?_⟩
  rw [e]
  have : nI (n / 8) * 8 = nI (n / 8 * 8) := (Int32.ofNat_mul (n / 8) 8).symm
  rw [this, nI_subn n (n / 8 * 8) (by omega)]
  congr 1
  omega
set_option maxRecDepth 100000 in
set_option maxHeartbeats 4000000 in
theorem mc37 {x : Int32} (h : cR E B M0 M A v) (hm : cM A v s) (hn : cNd A v s) (hq : Q (some (.int (if rIsNode s x then 1 else 0))) M nx) : XC E 37 [.ref (A 0 0 + 3), .int x] M nx Q := by
  have hN := h.1.2.1
  refine XC.run 60 [] ?_
  by_cases a : x < 0
  · rw [if_neg (by simp [rIsNode, a])] at hq
    simp only [n37, t37, ↓xh, ↓xst, ↓xrunE, ↓rG, rL, rSt, updA, List.elem_nil, List.elem_cons, Nat.reduceBEq, Bool.false_eq_true, if_false, if_true, true_and, and_true, true_or, or_true, not_false_eq_true, Nat.reduceAdd, Nat.reduceSub, Nat.reduceLeDiff, Nat.reduceEqDiff, Nat.reduceLT, ↓reduceIte, List.length_cons, List.length_nil, List.set_cons_zero, List.set_cons_succ, Nat.le_refl, Nat.zero_le, Nat.zero_sub, Nat.sub_zero, List.nil_append, List.cons_append, Option.toList_some, Option.toList_none, eq_self, lT a]
    exact hq
  obtain ⟨n, hn31, rfl, e1, e2⟩ := Int32_div8 a
  rw [e1] at e2
  simp only [n37, n42, t37, ↓xh, ↓xst, ↓xrunE, ↓rG, rL, rSt, updA, List.elem_nil, List.elem_cons, Nat.reduceBEq, Bool.false_eq_true, if_false, if_true, true_and, and_true, true_or, or_true, not_false_eq_true, Nat.reduceAdd, Nat.reduceSub, Nat.reduceLeDiff, Nat.reduceEqDiff, Nat.reduceLT, ↓reduceIte, List.length_cons, List.length_nil, List.set_cons_zero, List.set_cons_succ, Nat.le_refl, Nat.zero_le, Nat.zero_sub, Nat.sub_zero, List.nil_append, List.cons_append, Option.toList_some, Option.toList_none, eq_self, lF a, e1, show ¬ (8 : Int32) = 0 by decide, ↓cFx h]
  refine mc42 h hm ?_
  refine XZ.runH 60 [] ?_
  by_cases b : nI (A 2 0) ≤ nI (n / 8)
  · rw [if_pos (Or.inr b)]
    have b' := (nI_lei (show A 2 0 < 2 ^ 31 by omega) (show n / 8 < 2 ^ 31 by omega)).mp b
    rw [if_neg] at hq
    · simp only [n37, t37, ↓xh, ↓xst, ↓xrunE, ↓rG, rL, rSt, updA, List.elem_nil, List.elem_cons, Nat.reduceBEq, Bool.false_eq_true, if_false, if_true, true_and, and_true, true_or, or_true, not_false_eq_true, Nat.reduceAdd, Nat.reduceSub, Nat.reduceLeDiff, Nat.reduceEqDiff, Nat.reduceLT, ↓reduceIte, List.length_cons, List.length_nil, List.set_cons_zero, List.set_cons_succ, Nat.le_refl, Nat.zero_le, Nat.zero_sub, Nat.sub_zero, List.nil_append, List.cons_append, Option.toList_some, Option.toList_none, eq_self]
      exact hq
    · unfold rIsNode
      simp only [Bool.and_eq_true, decide_eq_true_eq]
      rintro ⟨⟨_, z2⟩, z3⟩
      rw [nI_clamp hn31] at z3
      by_cases z : n < 64
      · have := hn.2.2 n z z3
        omega
      · exact z2 ((nI_lei (a := 64) (by decide) hn31).mpr (by omega))
  · rw [if_neg (by simp [b, nI_pos (show n / 8 < 2 ^ 31 by omega)])]
    have b' : n / 8 < A 2 0 := Nat.not_le.mp fun z => b ((nI_lei (by omega) (by omega)).mpr z)
    have ev := hn.1 (n / 8) (n % 8) b' (by omega)
    rw [show 8 * (n / 8) + n % 8 = n by omega] at ev
    have ri : rIsNode s (nI n) = decide (¬ s.2 4 n = 0) := by
      unfold rIsNode
      rw [nI_clamp hn31]
      have : ¬ 64 ≤ nI n := nI_ge (b := 64) (show n < 64 by omega) (by decide)
      simp [a, this]
    rw [ri] at hq
    have i1 := nIx (show n / 8 < 8 by omega)
    have i2 := nIx (show n % 8 < 8 by omega)
    by_cases d : s.2 4 n = 0
    · simp only [n37, t37, ↓xh, ↓xst, ↓xrunE, ↓rG, rL, rSt, updA, List.elem_nil, List.elem_cons, Nat.reduceBEq, Bool.false_eq_true, if_false, if_true, true_and, and_true, true_or, or_true, not_false_eq_true, Nat.reduceAdd, Nat.reduceSub, Nat.reduceLeDiff, Nat.reduceEqDiff, Nat.reduceLT, ↓reduceIte, List.length_cons, List.length_nil, List.set_cons_zero, List.set_cons_succ, Nat.le_refl, Nat.zero_le, Nat.zero_sub, Nat.sub_zero, List.nil_append, List.cons_append, Option.toList_some, Option.toList_none, eq_self, ↓cFx h, ↓cNw h b', show ¬ (1 : Int32) = 0 by decide, show ¬ (8 : Int32) = 0 by decide, e1, e2, i1, i2, b', ev, d]
      simpa [d] using hq
    · simp only [n37, t37, ↓xh, ↓xst, ↓xrunE, ↓rG, rL, rSt, updA, List.elem_nil, List.elem_cons, Nat.reduceBEq, Bool.false_eq_true, if_false, if_true, true_and, and_true, true_or, or_true, not_false_eq_true, Nat.reduceAdd, Nat.reduceSub, Nat.reduceLeDiff, Nat.reduceEqDiff, Nat.reduceLT, ↓reduceIte, List.length_cons, List.length_nil, List.set_cons_zero, List.set_cons_succ, Nat.le_refl, Nat.zero_le, Nat.zero_sub, Nat.sub_zero, List.nil_append, List.cons_append, Option.toList_some, Option.toList_none, eq_self, ↓cFx h, ↓cNw h b', show ¬ (1 : Int32) = 0 by decide, show ¬ (8 : Int32) = 0 by decide, e1, e2, i1, i2, b', ev, d]
      simpa [d] using hq
set_option maxRecDepth 100000 in
set_option maxHeartbeats 4000000 in
theorem ml46 {n : Nat} (h : cR E B M0 M A v) (hm : cM A v s) (hn : n < 8) : ∀ l r, r + l = A 2 1 → Q (some (.int (rFst s n l r))) M nx → XZ E 46 (xZ E 46 Q) 2 [some (.ref (A 0 0 + 3)), some (.int (nI n)), some (.int (nI r))] [] M nx 0 0 := by
  have hR := h.1.2.2.1
  intro l
  induction l with
  | zero =>
    intro r hr hq
    have e := eT (nI_le (show A 2 1 ≤ r by omega) (show r < 2 ^ 31 by omega))
    refine XZ.runH 60 [2] ?_
    simp only [n46, t46, ↓xh, ↓xst, ↓xrunE, ↓rG, rL, rSt, updA, List.elem_nil, List.elem_cons, Nat.reduceBEq, Bool.false_eq_true, if_false, if_true, true_and, and_true, true_or, or_true, not_false_eq_true, Nat.reduceAdd, Nat.reduceSub, Nat.reduceLeDiff, Nat.reduceEqDiff, Nat.reduceLT, ↓reduceIte, List.length_cons, List.length_nil, List.set_cons_zero, List.set_cons_succ, Nat.le_refl, Nat.zero_le, Nat.zero_sub, Nat.sub_zero, List.nil_append, List.cons_append, Option.toList_some, Option.toList_none, eq_self, ↓cFx h, hm.1.2.1, e]
    exact hq
  | succ l ih =>
    intro r hr hq
    have r1 : r < A 2 1 := by omega
    have e := eF (nI_ge r1 (show A 2 1 < 2 ^ 31 by omega))
    have i1 := nIx (show r < 6 by omega)
    have i2 := nIx hn
    obtain ⟨q1, q2, q3⟩ := hm.2.1 r r1
    have q4 := q3 n hn
    rw [rFst] at hq
    refine XZ.runH 60 [2] ?_
    by_cases c : s.2 6 r = 0
    · rw [if_neg (by simp [c])] at hq
      simp only [n46, t46, ↓xh, ↓xst, ↓xrunE, ↓rG, rL, rSt, updA, List.elem_nil, List.elem_cons, Nat.reduceBEq, Bool.false_eq_true, if_false, if_true, true_and, and_true, true_or, or_true, not_false_eq_true, Nat.reduceAdd, Nat.reduceSub, Nat.reduceLeDiff, Nat.reduceEqDiff, Nat.reduceLT, ↓reduceIte, List.length_cons, List.length_nil, List.set_cons_zero, List.set_cons_succ, Nat.le_refl, Nat.zero_le, Nat.zero_sub, Nat.sub_zero, List.nil_append, List.cons_append, Option.toList_some, Option.toList_none, eq_self, ↓cFx h, hm.1.2.1, e, i1, r1, ↓cRo h r1, q1, c, nI_1]
      exact ih (r + 1) (by omega) hq
    by_cases d : rHas s r n = true
    · rw [if_pos ⟨c, d⟩] at hq
      rw [if_pos d] at q4
      simp only [n46, t46, ↓xh, ↓xst, ↓xrunE, ↓rG, rL, rSt, updA, List.elem_nil, List.elem_cons, Nat.reduceBEq, Bool.false_eq_true, if_false, if_true, true_and, and_true, true_or, or_true, not_false_eq_true, Nat.reduceAdd, Nat.reduceSub, Nat.reduceLeDiff, Nat.reduceEqDiff, Nat.reduceLT, ↓reduceIte, List.length_cons, List.length_nil, List.set_cons_zero, List.set_cons_succ, Nat.le_refl, Nat.zero_le, Nat.zero_sub, Nat.sub_zero, List.nil_append, List.cons_append, Option.toList_some, Option.toList_none, eq_self, ↓cFx h, hm.1.2.1, e, i1, i2, r1, ↓cRo h r1, q1, c, q4, show ¬ (1 : Int32) = 0 by decide]
      exact hq
    · rw [if_neg (by simp [d])] at hq
      rw [if_neg d] at q4
      simp only [n46, t46, ↓xh, ↓xst, ↓xrunE, ↓rG, rL, rSt, updA, List.elem_nil, List.elem_cons, Nat.reduceBEq, Bool.false_eq_true, if_false, if_true, true_and, and_true, true_or, or_true, not_false_eq_true, Nat.reduceAdd, Nat.reduceSub, Nat.reduceLeDiff, Nat.reduceEqDiff, Nat.reduceLT, ↓reduceIte, List.length_cons, List.length_nil, List.set_cons_zero, List.set_cons_succ, Nat.le_refl, Nat.zero_le, Nat.zero_sub, Nat.sub_zero, List.nil_append, List.cons_append, Option.toList_some, Option.toList_none, eq_self, ↓cFx h, hm.1.2.1, e, i1, i2, r1, ↓cRo h r1, q1, c, q4, nI_1]
      exact ih (r + 1) (by omega) hq
set_option maxRecDepth 100000 in
set_option maxHeartbeats 4000000 in
theorem mc46 {n : Nat} (h : cR E B M0 M A v) (hm : cM A v s) (hn : n < 8) (hq : Q (some (.int (rFst s n (A 2 1) 0))) M nx) : XC E 46 [.ref (A 0 0 + 3), .int (nI n)] M nx Q := by
  refine XC.run 20 [2] ?_
  simp only [n46, t46, ↓xh, ↓xst, ↓xrunE, ↓rG, rL, rSt, updA, List.elem_nil, List.elem_cons, Nat.reduceBEq, Bool.false_eq_true, if_false, if_true, true_and, and_true, true_or, or_true, not_false_eq_true, Nat.reduceAdd, Nat.reduceSub, Nat.reduceLeDiff, Nat.reduceEqDiff, Nat.reduceLT, ↓reduceIte, List.length_cons, List.length_nil, List.set_cons_zero, List.set_cons_succ, Nat.le_refl, Nat.zero_le, Nat.zero_sub, Nat.sub_zero, List.nil_append, List.cons_append, Option.toList_some, Option.toList_none, eq_self]
  exact ml46 h hm hn (A 2 1) 0 (by omega) hq
/-- a router's number below R, or less than 0 -/
def rRr (R : Nat) (x : Int32) : Prop := x < 0 ∨ ∃ r, r < R ∧ x = nI r
theorem rFst_rr (s : rS) (n R : Nat) : ∀ k r, r + k ≤ R → rRr R (rFst s n k r)
  | 0, _, _ => Or.inl (by rw [rFst]; decide)
  | k + 1, r, h => by
    rw [rFst]
    split
    · exact Or.inr ⟨r, by omega, rfl⟩
    · exact rFst_rr s n R k (r + 1) (by omega)
set_option maxRecDepth 100000 in
set_option maxHeartbeats 4000000 in
theorem ml43 {a b : Nat} {l5 : Option Value} (h : cR E B M0 M A v) (hm : cM A v s) (hb : b < 8) : ∀ l hop x l5, hop + l = 16 → rRr (A 2 1) x → Q (some (.int (rWy s b l hop x))) M nx → XZ E 43 (xZ E 43 Q) 16 [some (.ref (A 0 0 + 3)), some (.int (nI a)), some (.int (nI b)), some (.int x), some (.int (nI hop)), l5] [] M nx 0 0 := by
  have hR := h.1.2.2.1
  intro l
  induction l with
  | zero =>
    intro hop x l5 hh hx hq
    obtain rfl : hop = 16 := by omega
    refine XZ.runH 60 [16] ?_
    simp only [n43, t43, ↓xh, ↓xst, ↓xrunE, ↓rG, rL, rSt, updA, List.elem_nil, List.elem_cons, Nat.reduceBEq, Bool.false_eq_true, if_false, if_true, true_and, and_true, true_or, or_true, not_false_eq_true, Nat.reduceAdd, Nat.reduceSub, Nat.reduceLeDiff, Nat.reduceEqDiff, Nat.reduceLT, ↓reduceIte, List.length_cons, List.length_nil, List.set_cons_zero, List.set_cons_succ, Nat.le_refl, Nat.zero_le, Nat.zero_sub, Nat.sub_zero, List.nil_append, List.cons_append, Option.toList_some, Option.toList_none, eq_self, show (15 : Int32) < nI 16 by decide]
    exact hq
  | succ l ih =>
    intro hop x l5 hh hx hq
    have e := lF (k2_nlt (nI_le (b := 15) (show hop ≤ 15 by omega) (by decide)))
    have e15 : ¬ (15 : Int32) < nI hop := k2_nlt (nI_le (b := 15) (show hop ≤ 15 by omega) (by decide))
    rw [rWy] at hq
    refine XZ.runH 60 [16] ?_
    simp only [n43, n35, t43, ↓xh, ↓xst, ↓xrunE, ↓rG, rL, rSt, updA, List.elem_nil, List.elem_cons, Nat.reduceBEq, Bool.false_eq_true, if_false, if_true, true_and, and_true, true_or, or_true, not_false_eq_true, Nat.reduceAdd, Nat.reduceSub, Nat.reduceLeDiff, Nat.reduceEqDiff, Nat.reduceLT, ↓reduceIte, List.length_cons, List.length_nil, List.set_cons_zero, List.set_cons_succ, Nat.le_refl, Nat.zero_le, Nat.zero_sub, Nat.sub_zero, List.nil_append, List.cons_append, Option.toList_some, Option.toList_none, eq_self, e15, ↓cFx h]
    refine mc35 h hm.1.2.1 ?_
    refine XZ.runH 60 [16] ?_
    rcases hx with hx | ⟨r, hr, rfl⟩
    · rw [if_pos (Or.inl hx)]
      rw [if_pos (Or.inl hx)] at hq
      simp only [n43, t43, ↓xh, ↓xst, ↓xrunE, ↓rG, rL, rSt, updA, List.elem_nil, List.elem_cons, Nat.reduceBEq, Bool.false_eq_true, if_false, if_true, true_and, and_true, true_or, or_true, not_false_eq_true, Nat.reduceAdd, Nat.reduceSub, Nat.reduceLeDiff, Nat.reduceEqDiff, Nat.reduceLT, ↓reduceIte, List.length_cons, List.length_nil, List.set_cons_zero, List.set_cons_succ, Nat.le_refl, Nat.zero_le, Nat.zero_sub, Nat.sub_zero, List.nil_append, List.cons_append, Option.toList_some, Option.toList_none, eq_self]
      exact hq
    have p0 := nI_pos (show r < 2 ^ 31 by omega)
    rw [if_neg (by simp [p0, nI_ge hr (show A 2 1 < 2 ^ 31 by omega)])]
    rw [nI_clamp (show r < 2 ^ 31 by omega)] at hq
    have i1 := nIx (show r < 6 by omega)
    have i2 := nIx hb
    obtain ⟨e0, e1, e5⟩ := hm.2.2.1 r b hr hb
    by_cases f : s.2 7 (8 * r + b) < 0
    · rw [if_pos (Or.inr (Or.inl f))] at hq
      rw [if_pos f] at e0
      simp only [n43, t43, ↓xh, ↓xst, ↓xrunE, ↓rG, rL, rSt, updA, List.elem_nil, List.elem_cons, Nat.reduceBEq, Bool.false_eq_true, if_false, if_true, true_and, and_true, true_or, or_true, not_false_eq_true, Nat.reduceAdd, Nat.reduceSub, Nat.reduceLeDiff, Nat.reduceEqDiff, Nat.reduceLT, ↓reduceIte, List.length_cons, List.length_nil, List.set_cons_zero, List.set_cons_succ, Nat.le_refl, Nat.zero_le, Nat.zero_sub, Nat.sub_zero, List.nil_append, List.cons_append, Option.toList_some, Option.toList_none, eq_self, show ¬ (1 : Int32) = 0 by decide, ↓cFx h, i1, i2, hr, hb, ↓cRo h hr, ↓cEn h hr hb, e0]
      exact hq
    rw [if_neg f] at e0
    obtain ⟨a1, a2, a3, a4⟩ := e1 f
    by_cases g : s.2 10 (8 * r + b) = 2
    · rw [if_pos (Or.inr (Or.inr g))] at hq
      simp only [n43, t43, ↓xh, ↓xst, ↓xrunE, ↓rG, rL, rSt, updA, List.elem_nil, List.elem_cons, Nat.reduceBEq, Bool.false_eq_true, if_false, if_true, true_and, and_true, true_or, or_true, not_false_eq_true, Nat.reduceAdd, Nat.reduceSub, Nat.reduceLeDiff, Nat.reduceEqDiff, Nat.reduceLT, ↓reduceIte, List.length_cons, List.length_nil, List.set_cons_zero, List.set_cons_succ, Nat.le_refl, Nat.zero_le, Nat.zero_sub, Nat.sub_zero, List.nil_append, List.cons_append, Option.toList_some, Option.toList_none, eq_self, show ¬ (1 : Int32) = 0 by decide, ↓cFx h, i1, i2, hr, hb, ↓cRo h hr, ↓cEn h hr hb, e0, a4, g]
      exact hq
    rw [if_neg (by simp [p0, f, g])] at hq
    by_cases z : s.2 7 (8 * r + b) = 0
    · rw [if_pos z] at hq
      simp only [n43, t43, ↓xh, ↓xst, ↓xrunE, ↓rG, rL, rSt, updA, List.elem_nil, List.elem_cons, Nat.reduceBEq, Bool.false_eq_true, if_false, if_true, true_and, and_true, true_or, or_true, not_false_eq_true, Nat.reduceAdd, Nat.reduceSub, Nat.reduceLeDiff, Nat.reduceEqDiff, Nat.reduceLT, ↓reduceIte, List.length_cons, List.length_nil, List.set_cons_zero, List.set_cons_succ, Nat.le_refl, Nat.zero_le, Nat.zero_sub, Nat.sub_zero, List.nil_append, List.cons_append, Option.toList_some, Option.toList_none, eq_self, show ¬ (1 : Int32) = 0 by decide, ↓cFx h, i1, i2, hr, hb, ↓cRo h hr, ↓cEn h hr hb, e0, a1, a4, g, z]
      exact hq
    · rw [if_neg z] at hq
      simp only [n43, t43, ↓xh, ↓xst, ↓xrunE, ↓rG, rL, rSt, updA, List.elem_nil, List.elem_cons, Nat.reduceBEq, Bool.false_eq_true, if_false, if_true, true_and, and_true, true_or, or_true, not_false_eq_true, Nat.reduceAdd, Nat.reduceSub, Nat.reduceLeDiff, Nat.reduceEqDiff, Nat.reduceLT, ↓reduceIte, List.length_cons, List.length_nil, List.set_cons_zero, List.set_cons_succ, Nat.le_refl, Nat.zero_le, Nat.zero_sub, Nat.sub_zero, List.nil_append, List.cons_append, Option.toList_some, Option.toList_none, eq_self, show ¬ (1 : Int32) = 0 by decide, ↓cFx h, i1, i2, hr, hb, ↓cRo h hr, ↓cEn h hr hb, e0, a1, a2, a4, g, z, nI_1]
      refine ih (hop + 1) _ _ (by omega) ?_ hq
      obtain ⟨_, _, _, q⟩ := hm.2.2.2.at (by omega) hb f
      rcases q with q | ⟨_, d, t, p, hh', q1, q2, q3, q4, q5, _⟩
      · exact Or.inl (by rw [q.2.2.1]; decide)
      · exact Or.inr ⟨t, q4, q5⟩
set_option maxRecDepth 100000 in
set_option maxHeartbeats 4000000 in
theorem mc43 {a b : Nat} (h : cR E B M0 M A v) (hm : cM A v s) (ha : a < 8) (hb : b < 8) (hq : Q (some (.int (rWay s (A 2 1) a b))) M nx) : XC E 43 [.ref (A 0 0 + 3), .int (nI a), .int (nI b)] M nx Q := by
  rw [rWay] at hq
  refine XC.run 60 [16] ?_
  by_cases c : a = b
  · rw [if_pos c] at hq
    simp only [n43, t43, ↓xh, ↓xst, ↓xrunE, ↓rG, rL, rSt, updA, List.elem_nil, List.elem_cons, Nat.reduceBEq, Bool.false_eq_true, if_false, if_true, true_and, and_true, true_or, or_true, not_false_eq_true, Nat.reduceAdd, Nat.reduceSub, Nat.reduceLeDiff, Nat.reduceEqDiff, Nat.reduceLT, ↓reduceIte, List.length_cons, List.length_nil, List.set_cons_zero, List.set_cons_succ, Nat.le_refl, Nat.zero_le, Nat.zero_sub, Nat.sub_zero, List.nil_append, List.cons_append, Option.toList_some, Option.toList_none, eq_self, show nI a = nI b by rw [c]]
    exact hq
  · rw [if_neg c] at hq
    have c' : ¬ nI a = nI b := fun z => c (nI_inj (by omega) (by omega) z)
    simp only [n43, n46, t43, ↓xh, ↓xst, ↓xrunE, ↓rG, rL, rSt, updA, List.elem_nil, List.elem_cons, Nat.reduceBEq, Bool.false_eq_true, if_false, if_true, true_and, and_true, true_or, or_true, not_false_eq_true, Nat.reduceAdd, Nat.reduceSub, Nat.reduceLeDiff, Nat.reduceEqDiff, Nat.reduceLT, ↓reduceIte, List.length_cons, List.length_nil, List.set_cons_zero, List.set_cons_succ, Nat.le_refl, Nat.zero_le, Nat.zero_sub, Nat.sub_zero, List.nil_append, List.cons_append, Option.toList_some, Option.toList_none, eq_self, c', ↓cFx h]
    refine mc46 h hm ha ?_
    refine XZ.runH 60 [16] ?_
    simp only [n43, t43, ↓xh, ↓xst, ↓xrunE, ↓rG, rL, rSt, updA, List.elem_nil, List.elem_cons, Nat.reduceBEq, Bool.false_eq_true, if_false, if_true, true_and, and_true, true_or, or_true, not_false_eq_true, Nat.reduceAdd, Nat.reduceSub, Nat.reduceLeDiff, Nat.reduceEqDiff, Nat.reduceLT, ↓reduceIte, List.length_cons, List.length_nil, List.set_cons_zero, List.set_cons_succ, Nat.le_refl, Nat.zero_le, Nat.zero_sub, Nat.sub_zero, List.nil_append, List.cons_append, Option.toList_some, Option.toList_none, eq_self]
    exact ml43 (l5 := none) h hm hb 15 1 _ _ rfl (rFst_rr s a _ _ _ (by omega)) hq
theorem rWy_m {s : rS} {b : Nat} : ∀ l hop x, hop + l < 2 ^ 31 → rWy s b l hop x = -1 ∨ ¬ rWy s b l hop x < 0
  | 0, _, _, _ => Or.inl rfl
  | l + 1, hop, x, h => by
    rw [rWy]
    split
    · exact Or.inl rfl
    · split
      · exact Or.inr (nI_pos (by omega))
      · exact rWy_m l (hop + 1) _ (by omega)
theorem rWay_m (s : rS) (R a b : Nat) : rWay s R a b = -1 ↔ rWay s R a b < 0 := by
  refine ⟨fun z => by rw [z]; decide, fun z => ?_⟩
  unfold rWay at z ⊢
  split at z
  · exact absurd z (by decide)
  · next c =>
    rw [if_neg c]
    rcases rWy_m (s := s) (b := b) 15 1 (rFst s a R 0) (by omega) with q | q
    · exact q
    · exact absurd z q
set_option maxRecDepth 100000 in
set_option maxHeartbeats 4000000 in
theorem mc44 {a b : Nat} (h : cR E B M0 M A v) (hm : cM A v s) (ha : a < 8) (hb : b < 8) (hq : Q (some (.int (if rWay s (A 2 1) a b < 0 ∨ rWay s (A 2 1) b a < 0 then 0 else 1))) M nx) : XC E 44 [.ref (A 0 0 + 3), .int (nI a), .int (nI b)] M nx Q := by
  have w1 := rWay_m s (A 2 1) a b
  have w2 := rWay_m s (A 2 1) b a
  refine XC.run 60 [] ?_
  simp only [n44, n43, t44, ↓xh, ↓xst, ↓xrunE, ↓rG, rL, rSt, updA, List.elem_nil, List.elem_cons, Nat.reduceBEq, Bool.false_eq_true, if_false, if_true, true_and, and_true, true_or, or_true, not_false_eq_true, Nat.reduceAdd, Nat.reduceSub, Nat.reduceLeDiff, Nat.reduceEqDiff, Nat.reduceLT, ↓reduceIte, List.length_cons, List.length_nil, List.set_cons_zero, List.set_cons_succ, Nat.le_refl, Nat.zero_le, Nat.zero_sub, Nat.sub_zero, List.nil_append, List.cons_append, Option.toList_some, Option.toList_none, eq_self, ↓cFx h]
  refine mc43 h hm ha hb ?_
  refine XZ.runH 60 [] ?_
  by_cases c : rWay s (A 2 1) a b < 0
  · rw [if_pos (Or.inl c)] at hq
    simp only [n44, t44, ↓xh, ↓xst, ↓xrunE, ↓rG, rL, rSt, updA, List.elem_nil, List.elem_cons, Nat.reduceBEq, Bool.false_eq_true, if_false, if_true, true_and, and_true, true_or, or_true, not_false_eq_true, Nat.reduceAdd, Nat.reduceSub, Nat.reduceLeDiff, Nat.reduceEqDiff, Nat.reduceLT, ↓reduceIte, List.length_cons, List.length_nil, List.set_cons_zero, List.set_cons_succ, Nat.le_refl, Nat.zero_le, Nat.zero_sub, Nat.sub_zero, List.nil_append, List.cons_append, Option.toList_some, Option.toList_none, eq_self, w1.mpr c]
    exact hq
  have c' : ¬ rWay s (A 2 1) a b = -1 := fun z => c (w1.mp z)
  simp only [n44, n43, t44, ↓xh, ↓xst, ↓xrunE, ↓rG, rL, rSt, updA, List.elem_nil, List.elem_cons, Nat.reduceBEq, Bool.false_eq_true, if_false, if_true, true_and, and_true, true_or, or_true, not_false_eq_true, Nat.reduceAdd, Nat.reduceSub, Nat.reduceLeDiff, Nat.reduceEqDiff, Nat.reduceLT, ↓reduceIte, List.length_cons, List.length_nil, List.set_cons_zero, List.set_cons_succ, Nat.le_refl, Nat.zero_le, Nat.zero_sub, Nat.sub_zero, List.nil_append, List.cons_append, Option.toList_some, Option.toList_none, eq_self, c', ↓cFx h]
  refine mc43 h hm hb ha ?_
  refine XZ.runH 60 [] ?_
  by_cases d : rWay s (A 2 1) b a < 0
  · rw [if_pos (Or.inr d)] at hq
    simp only [n44, t44, ↓xh, ↓xst, ↓xrunE, ↓rG, rL, rSt, updA, List.elem_nil, List.elem_cons, Nat.reduceBEq, Bool.false_eq_true, if_false, if_true, true_and, and_true, true_or, or_true, not_false_eq_true, Nat.reduceAdd, Nat.reduceSub, Nat.reduceLeDiff, Nat.reduceEqDiff, Nat.reduceLT, ↓reduceIte, List.length_cons, List.length_nil, List.set_cons_zero, List.set_cons_succ, Nat.le_refl, Nat.zero_le, Nat.zero_sub, Nat.sub_zero, List.nil_append, List.cons_append, Option.toList_some, Option.toList_none, eq_self, w2.mpr d]
    exact hq
  · rw [if_neg (by simp [c, d])] at hq
    simp only [n44, t44, ↓xh, ↓xst, ↓xrunE, ↓rG, rL, rSt, updA, List.elem_nil, List.elem_cons, Nat.reduceBEq, Bool.false_eq_true, if_false, if_true, true_and, and_true, true_or, or_true, not_false_eq_true, Nat.reduceAdd, Nat.reduceSub, Nat.reduceLeDiff, Nat.reduceEqDiff, Nat.reduceLT, ↓reduceIte, List.length_cons, List.length_nil, List.set_cons_zero, List.set_cons_succ, Nat.le_refl, Nat.zero_le, Nat.zero_sub, Nat.sub_zero, List.nil_append, List.cons_append, Option.toList_some, Option.toList_none, eq_self, show ¬ rWay s (A 2 1) b a = -1 from fun z => d (w2.mp z)]
    exact hq
set_option maxRecDepth 100000 in
set_option maxHeartbeats 4000000 in
theorem mc59 {a b : Nat} (h : cR E B M0 M A v) (hm : cQ A v s) (ha : a < 8) (hb : b < 8) (hq : ∀ M' v', cR E B M0 M' A v' → cQ A v' (rPk s) → (∀ kd, kd ≠ 9 → v' kd = v kd) → Q (some (.int (if rGot s (A 2 1) a b then 1 else 0))) M' nx) : XC E 59 [.ref (A 0 0 + 6), .int (nI a), .int (nI b)] M nx Q := by
  have l9 : clv A 9 0 := ⟨rfl, by decide⟩
  have hx : xb E ≤ A 0 0 + 6 := h.1.lo l9
  have fin : ∀ M1, cR E B M0 M1 A (uv v 9 0 (w [0, rLs (s.1 47), s.1 48 + 1])) → XZ E 59 (xZ E 59 Q) 36 [some (.ref (A 0 0 + 6)), some (.int (nI a)), some (.int (nI b)), some (.int (if s.1 47 &&& 1 = 1 then 1 else 0))] [] M1 nx 0 0 := by
    intro M1 h1
    have q1 := hm.pk (g := w [0, rLs (s.1 47), s.1 48 + 1]) rfl rfl
    have z := hq M1 _ h1 q1 (fun kd hk => uv_k hk)
    have e9 : rWay (rPk s) (A 2 1) a b = rWay s (A 2 1) a b := rWay_sc s _ (A 2 1) a b
    refine XZ.runH 60 [] ?_
    by_cases c : s.1 47 &&& 1 = 1
    · simp only [rGot, c, not_true_eq_false, decide_false, Bool.false_and, Bool.false_eq_true, if_false] at z
      simp only [n59, t59, ↓xh, ↓xst, ↓xrunE, ↓rG, rL, rSt, updA, List.elem_nil, List.elem_cons, Nat.reduceBEq, Bool.false_eq_true, if_false, if_true, true_and, and_true, true_or, or_true, not_false_eq_true, Nat.reduceAdd, Nat.reduceSub, Nat.reduceLeDiff, Nat.reduceEqDiff, Nat.reduceLT, ↓reduceIte, List.length_cons, List.length_nil, List.set_cons_zero, List.set_cons_succ, Nat.le_refl, Nat.zero_le, Nat.zero_sub, Nat.sub_zero, List.nil_append, List.cons_append, Option.toList_some, Option.toList_none, eq_self, c, show ¬ (1 : Int32) = 0 by decide]
      exact z
    · simp only [n59, n43, t59, ↓xh, ↓xst, ↓xrunE, ↓rG, rL, rSt, updA, List.elem_nil, List.elem_cons, Nat.reduceBEq, Bool.false_eq_true, if_false, if_true, true_and, and_true, true_or, or_true, not_false_eq_true, Nat.reduceAdd, Nat.reduceSub, Nat.reduceLeDiff, Nat.reduceEqDiff, Nat.reduceLT, ↓reduceIte, List.length_cons, List.length_nil, List.set_cons_zero, List.set_cons_succ, Nat.le_refl, Nat.zero_le, Nat.zero_sub, Nat.sub_zero, List.nil_append, List.cons_append, Option.toList_some, Option.toList_none, eq_self, c, ↓cFx h1]
      refine mc43 h1 q1.1 ha hb ?_
      rw [e9]
      refine XZ.runH 20 [] ?_
      by_cases d : rWay s (A 2 1) a b < 0
      · simp only [rGot, d, not_true_eq_false, decide_false, Bool.and_false, Bool.false_eq_true, if_false] at z
        simp only [n59, t59, ↓xh, ↓xst, ↓xrunE, ↓rG, rL, rSt, updA, List.elem_nil, List.elem_cons, Nat.reduceBEq, Bool.false_eq_true, if_false, if_true, true_and, and_true, true_or, or_true, not_false_eq_true, Nat.reduceAdd, Nat.reduceSub, Nat.reduceLeDiff, Nat.reduceEqDiff, Nat.reduceLT, ↓reduceIte, List.length_cons, List.length_nil, List.set_cons_zero, List.set_cons_succ, Nat.le_refl, Nat.zero_le, Nat.zero_sub, Nat.sub_zero, List.nil_append, List.cons_append, Option.toList_some, Option.toList_none, eq_self, (rWay_m s (A 2 1) a b).mpr d]
        exact z
      · simp only [rGot, c, d, not_false_eq_true, decide_true, Bool.and_true, if_true] at z
        have d' : ¬ rWay s (A 2 1) a b = -1 := fun y => d ((rWay_m s (A 2 1) a b).mp y)
        simp only [n59, t59, ↓xh, ↓xst, ↓xrunE, ↓rG, rL, rSt, updA, List.elem_nil, List.elem_cons, Nat.reduceBEq, Bool.false_eq_true, if_false, if_true, true_and, and_true, true_or, or_true, not_false_eq_true, Nat.reduceAdd, Nat.reduceSub, Nat.reduceLeDiff, Nat.reduceEqDiff, Nat.reduceLT, ↓reduceIte, List.length_cons, List.length_nil, List.set_cons_zero, List.set_cons_succ, Nat.le_refl, Nat.zero_le, Nat.zero_sub, Nat.sub_zero, List.nil_append, List.cons_append, Option.toList_some, Option.toList_none, eq_self, d']
        exact z
  refine XC.run 60 [36] ?_
  by_cases c : s.1 47 &&& 1 = 1
  · rw [if_pos c] at fin
    simp only [n59, t59, ↓xh, ↓xst, ↓xrunE, ↓rG, rL, rSt, updA, List.elem_nil, List.elem_cons, Nat.reduceBEq, Bool.false_eq_true, if_false, if_true, true_and, and_true, true_or, or_true, not_false_eq_true, Nat.reduceAdd, Nat.reduceSub, Nat.reduceLeDiff, Nat.reduceEqDiff, Nat.reduceLT, ↓reduceIte, List.length_cons, List.length_nil, List.set_cons_zero, List.set_cons_succ, Nat.le_refl, Nat.zero_le, Nat.zero_sub, Nat.sub_zero, List.nil_append, List.cons_append, Option.toList_some, Option.toList_none, eq_self, ↓cFx h, ↓xoP, xpp, hx, hm.2.2.1.1, hm.2.2.1.2, c]
    exact fin _ (h.pw 9 0 l9 (w [0, rLs (s.1 47), s.1 48 + 1]) rfl rfl)
  · rw [if_neg c] at fin
    simp only [n59, t59, ↓xh, ↓xst, ↓xrunE, ↓rG, rL, rSt, updA, List.elem_nil, List.elem_cons, Nat.reduceBEq, Bool.false_eq_true, if_false, if_true, true_and, and_true, true_or, or_true, not_false_eq_true, Nat.reduceAdd, Nat.reduceSub, Nat.reduceLeDiff, Nat.reduceEqDiff, Nat.reduceLT, ↓reduceIte, List.length_cons, List.length_nil, List.set_cons_zero, List.set_cons_succ, Nat.le_refl, Nat.zero_le, Nat.zero_sub, Nat.sub_zero, List.nil_append, List.cons_append, Option.toList_some, Option.toList_none, eq_self, ↓cFx h, ↓xoP, xpp, hx, hm.2.2.1.1, hm.2.2.1.2, c]
    exact fin _ (h.pw 9 0 l9 (w [0, rLs (s.1 47), s.1 48 + 1]) rfl rfl)
end MSH
