/-! nodes; a command -/
theorem nI_rem6 : ∀ q, q < 12 → nI q - nI q / 6 * 6 = nI (q % 6) := by decide +kernel
theorem rIdn_r {w k : Nat} (h1 : 1 ≤ w) (h2 : w ≤ 6) (h3 : k < 6) : rIdn w k = 1 + (w - 1 + k) % 6 := by
  unfold rIdn
  split <;> omega
theorem i8_7 {k : Int32} : 8 ≤ k ↔ 7 < k := by
  rw [Int32.le_iff_toInt_le, Int32.lt_iff_toInt_lt]
  rw [show (8 : Int32).toInt = 8 by decide, show (7 : Int32).toInt = 7 by decide]
  omega
section NOD
variable {E : xE} {B nx : Nat} {M0 M : xM} {A : cA} {v : cV} {s : rS} {Q : Option Value → xM → Nat → Prop}
set_option maxRecDepth 100000 in
set_option maxHeartbeats 4000000 in
theorem ml36 {n w : Nat} (h : cR E B M0 M A v) (hn : n < A 2 0) (hd : cNd A v s) (w1 : 1 ≤ w) (w6 : w ≤ 6) : ∀ l k l5, k + l = 6 → (∀ id, rNdF s n w l k = some id → ∀ M', cR E B M0 M' A (uv v 13 n (upd (v 13 n) id 1)) → Q (some (.int (nI (8 * n + id)))) M' nx) → (rNdF s n w l k = none → Q (some (.int (-1))) M nx) →
    XZ E 36 (xZ E 36 Q) 34 [some (.ref (A 0 0 + 3)), some (.int (nI n)), some (.int (nI w)), some (.ref (A 3 n + 1)), some (.int (nI k)), l5] [] M nx 0 0 := by
  intro l
  induction l with
  | zero =>
    intro k l5 hk q1 q2
    obtain rfl : k = 6 := by omega
    refine XZ.runH 60 [34] ?_
    simp only [n36, t36, ↓xh, ↓xst, ↓xrunE, ↓rG, rL, rSt, updA, List.elem_nil, List.elem_cons, Nat.reduceBEq, Bool.false_eq_true, if_false, if_true, true_and, and_true, true_or, or_true, not_false_eq_true, Nat.reduceAdd, Nat.reduceSub, Nat.reduceLeDiff, Nat.reduceEqDiff, Nat.reduceLT, ↓reduceIte, List.length_cons, List.length_nil, List.set_cons_zero, List.set_cons_succ, Nat.le_refl, Nat.zero_le, Nat.zero_sub, Nat.sub_zero, List.nil_append, List.cons_append, Option.toList_some, Option.toList_none, eq_self, show (6 : Int32) ≤ nI 6 by decide]
    exact q2 rfl
  | succ l ih =>
    intro k l5 hk q1 q2
    have g : ¬ (6 : Int32) ≤ nI k := nI_ge (show k < 6 by omega) (by decide)
    have a1 : nI w - 1 = nI (w - 1) := nI_subn w 1 w1
    have a2 := nI_rem6 (w - 1 + k) (by omega)
    have a3 : (1 : Int32) + nI ((w - 1 + k) % 6) = nI (rIdn w k) := by rw [rIdn_r w1 w6 (by omega)]; exact nI_add 1 _
    have ile := rIdn_le w1 w6 (show k < 6 by omega)
    have ii := nIx (show rIdn w k < 8 by omega)
    have bn : xb E ≤ A 3 n + 1 := h.1.lo (kd := 13) (i := n) hn
    have ev := hd.1 n (rIdn w k) hn (by omega)
    rw [rNdF] at q1 q2
    refine XZ.runH 60 [34] ?_
    by_cases c : s.2 4 (8 * n + rIdn w k) = 0
    · rw [if_pos c] at q1
      simp only [n36, t36, ↓xh, ↓xst, ↓xrunE, ↓rG, rL, rSt, updA, List.elem_nil, List.elem_cons, Nat.reduceBEq, Bool.false_eq_true, if_false, if_true, true_and, and_true, true_or, or_true, not_false_eq_true, Nat.reduceAdd, Nat.reduceSub, Nat.reduceLeDiff, Nat.reduceEqDiff, Nat.reduceLT, ↓reduceIte, List.length_cons, List.length_nil, List.set_cons_zero, List.set_cons_succ, Nat.le_refl, Nat.zero_le, Nat.zero_sub, Nat.sub_zero, List.nil_append, List.cons_append, Option.toList_some, Option.toList_none, eq_self, g, a1, nI_add, a2, a3, show ¬ (6 : Int32) = 0 by decide, ↓cNw h hn, ii, ev, c, bn, xn2b, updVi, nIm8]
      exact q1 _ rfl _ (h.pw 13 n hn _ rfl rfl)
    · rw [if_neg c] at q1 q2
      simp only [n36, t36, ↓xh, ↓xst, ↓xrunE, ↓rG, rL, rSt, updA, List.elem_nil, List.elem_cons, Nat.reduceBEq, Bool.false_eq_true, if_false, if_true, true_and, and_true, true_or, or_true, not_false_eq_true, Nat.reduceAdd, Nat.reduceSub, Nat.reduceLeDiff, Nat.reduceEqDiff, Nat.reduceLT, ↓reduceIte, List.length_cons, List.length_nil, List.set_cons_zero, List.set_cons_succ, Nat.le_refl, Nat.zero_le, Nat.zero_sub, Nat.sub_zero, List.nil_append, List.cons_append, Option.toList_some, Option.toList_none, eq_self, g, a1, nI_add, a2, a3, show ¬ (6 : Int32) = 0 by decide, ↓cNw h hn, ii, ev, c, nI_1]
      exact ih (k + 1) _ (by omega) q1 q2
set_option maxRecDepth 100000 in
set_option maxHeartbeats 4000000 in
theorem mc36 {x y : Int32} (h : cR E B M0 M A v) (hm : cM A v s) (hd : cNd A v s) (hq : ∀ M' v', cR E B M0 M' A v' → cNd A v' (rNode s (A 2 0) x y).2 → (∀ kd, kd ≠ 13 → v' kd = v kd) → Q (some (.int (rNode s (A 2 0) x y).1)) M' nx) : XC E 36 [.ref (A 0 0 + 3), .int x, .int y] M nx Q := by
  have hN := h.1.2.1
  rw [rNode] at hq
  refine XC.run 60 [34] ?_
  simp only [n36, n42, t36, ↓xh, ↓xst, ↓xrunE, ↓rG, rL, rSt, updA, List.elem_nil, List.elem_cons, Nat.reduceBEq, Bool.false_eq_true, if_false, if_true, true_and, and_true, true_or, or_true, not_false_eq_true, Nat.reduceAdd, Nat.reduceSub, Nat.reduceLeDiff, Nat.reduceEqDiff, Nat.reduceLT, ↓reduceIte, List.length_cons, List.length_nil, List.set_cons_zero, List.set_cons_succ, Nat.le_refl, Nat.zero_le, Nat.zero_sub, Nat.sub_zero, List.nil_append, List.cons_append, Option.toList_some, Option.toList_none, eq_self, ↓cFx h]
  refine mc42 h hm ?_
  refine XZ.runH 60 [34] ?_
  by_cases c : x < 0 ∨ nI (A 2 0) ≤ x
  · rw [if_pos c]
    rw [if_pos (by rcases c with c | c <;> simp [c])] at hq
    simp only [n36, t36, ↓xh, ↓xst, ↓xrunE, ↓rG, rL, rSt, updA, List.elem_nil, List.elem_cons, Nat.reduceBEq, Bool.false_eq_true, if_false, if_true, true_and, and_true, true_or, or_true, not_false_eq_true, Nat.reduceAdd, Nat.reduceSub, Nat.reduceLeDiff, Nat.reduceEqDiff, Nat.reduceLT, ↓reduceIte, List.length_cons, List.length_nil, List.set_cons_zero, List.set_cons_succ, Nat.le_refl, Nat.zero_le, Nat.zero_sub, Nat.sub_zero, List.nil_append, List.cons_append, Option.toList_some, Option.toList_none, eq_self]
    exact hq M v h hd (fun _ _ => rfl)
  rw [if_neg c]
  obtain ⟨n, hn, rfl⟩ := nIv (X := A 2 0) (fun z => c (Or.inl z)) (fun z => c (Or.inr z)) (by omega)
  by_cases d : y < 1
  · rw [if_pos (Or.inr (Or.inr (Or.inl d)))] at hq
    simp only [n36, t36, ↓xh, ↓xst, ↓xrunE, ↓rG, rL, rSt, updA, List.elem_nil, List.elem_cons, Nat.reduceBEq, Bool.false_eq_true, if_false, if_true, true_and, and_true, true_or, or_true, not_false_eq_true, Nat.reduceAdd, Nat.reduceSub, Nat.reduceLeDiff, Nat.reduceEqDiff, Nat.reduceLT, ↓reduceIte, List.length_cons, List.length_nil, List.set_cons_zero, List.set_cons_succ, Nat.le_refl, Nat.zero_le, Nat.zero_sub, Nat.sub_zero, List.nil_append, List.cons_append, Option.toList_some, Option.toList_none, eq_self, show ¬ (1 : Int32) = 0 by decide, lT d]
    exact hq M v h hd (fun _ _ => rfl)
  by_cases e : 6 < y
  · rw [if_pos (Or.inr (Or.inr (Or.inr e)))] at hq
    simp only [n36, t36, ↓xh, ↓xst, ↓xrunE, ↓rG, rL, rSt, updA, List.elem_nil, List.elem_cons, Nat.reduceBEq, Bool.false_eq_true, if_false, if_true, true_and, and_true, true_or, or_true, not_false_eq_true, Nat.reduceAdd, Nat.reduceSub, Nat.reduceLeDiff, Nat.reduceEqDiff, Nat.reduceLT, ↓reduceIte, List.length_cons, List.length_nil, List.set_cons_zero, List.set_cons_succ, Nat.le_refl, Nat.zero_le, Nat.zero_sub, Nat.sub_zero, List.nil_append, List.cons_append, Option.toList_some, Option.toList_none, eq_self, show ¬ (1 : Int32) = 0 by decide, lF d, lT e]
    exact hq M v h hd (fun _ _ => rfl)
  rw [if_neg (by rintro (z | z | z | z); exact c (Or.inl z); exact c (Or.inr z); exact d z; exact e z)] at hq
  obtain ⟨w', w1, w6, rfl⟩ := iv16 d e
  rw [nI_clamp (by omega), nI_clamp (by omega)] at hq
  have i_n := nIx (show n < 8 by omega)
  simp only [n36, t36, ↓xh, ↓xst, ↓xrunE, ↓rG, rL, rSt, updA, List.elem_nil, List.elem_cons, Nat.reduceBEq, Bool.false_eq_true, if_false, if_true, true_and, and_true, true_or, or_true, not_false_eq_true, Nat.reduceAdd, Nat.reduceSub, Nat.reduceLeDiff, Nat.reduceEqDiff, Nat.reduceLT, ↓reduceIte, List.length_cons, List.length_nil, List.set_cons_zero, List.set_cons_succ, Nat.le_refl, Nat.zero_le, Nat.zero_sub, Nat.sub_zero, List.nil_append, List.cons_append, Option.toList_some, Option.toList_none, eq_self, show ¬ (1 : Int32) = 0 by decide, lF d, lF e, ↓cFx h, i_n, hn, ↓cNw h hn]
  refine ml36 h hn hd w1 w6 6 0 none rfl (fun id z M' h' => ?_) (fun z => ?_)
  · rw [z] at hq
    have hid : id < 8 ∧ 1 ≤ id := by
      have key : ∀ l k, k + l = 6 → rNdF s n w' l k = some id → id < 8 ∧ 1 ≤ id := by
        intro l
        induction l with
        | zero => intro k _ z; exact absurd z (by simp [rNdF])
        | succ l ih =>
          intro k hk z
          rw [rNdF] at z
          split at z
          · injection z with z
            have := rIdn_le w1 w6 (show k < 6 by omega)
            omega
          · exact ih (k + 1) (by omega) z
      exact key 6 0 rfl z
    refine hq M' _ h' ⟨fun n' k' hn' hk' => ?_, fun i hi => ?_, fun i hi => ?_⟩ (fun kd hk => uv_k hk)
    · dsimp only [Option.elim]
      by_cases z1 : n' = n
      · subst z1
        rw [uv_s, updA, up2_s]
        by_cases z2 : k' = id
        · rw [if_pos z2, if_pos (by omega)]
        · rw [if_neg z2, if_neg (by omega)]
          exact hd.1 n' k' hn' hk'
      · rw [uv_n (fun y => z1 y.2), up2_s, if_neg (by omega)]
        exact hd.1 n' k' hn' hk'
    · dsimp only [Option.elim]
      rw [up2_s]
      split
      · exact Or.inr rfl
      · exact hd.2.1 i hi
    · dsimp only [Option.elim]
      rw [up2_s]
      split
      · next z1 => intro _; omega
      · exact hd.2.2 i hi
  · rw [z] at hq
    exact hq M v h hd (fun _ _ => rfl)
set_option maxRecDepth 100000 in
set_option maxHeartbeats 4000000 in
theorem mc7 {x y : Int32} (h : cR E B M0 M A v) (hm : cQ A v s) (hd : cNd A v s) (hq : ∀ M' v', cR E B M0 M' A v' → cQ A v' (rNode s (A 2 0) x y).2 → cNd A v' (rNode s (A 2 0) x y).2 → (∀ kd, kd ≠ 13 → v' kd = v kd) → Q (some (.int (rNode s (A 2 0) x y).1)) M' nx) : XC E 7 [.ref (A 0 0), .int x, .int y] M nx Q := by
  refine XC.run 60 [] ?_
  simp only [n7, n36, t7, ↓xh, ↓xst, ↓xrunE, ↓rG, rL, rSt, updA, List.elem_nil, List.elem_cons, Nat.reduceBEq, Bool.false_eq_true, if_false, if_true, true_and, and_true, true_or, or_true, not_false_eq_true, Nat.reduceAdd, Nat.reduceSub, Nat.reduceLeDiff, Nat.reduceEqDiff, Nat.reduceLT, ↓reduceIte, List.length_cons, List.length_nil, List.set_cons_zero, List.set_cons_succ, Nat.le_refl, Nat.zero_le, Nat.zero_sub, Nat.sub_zero, List.nil_append, List.cons_append, Option.toList_some, Option.toList_none, eq_self, ↓cFx h]
  refine mc36 h hm.1 hd (fun M' v' h' d' k' => ?_)
  refine XZ.runH 20 [] ?_
  simp only [n7, t7, ↓xh, ↓xst, ↓xrunE, ↓rG, rL, rSt, updA, List.elem_nil, List.elem_cons, Nat.reduceBEq, Bool.false_eq_true, if_false, if_true, true_and, and_true, true_or, or_true, not_false_eq_true, Nat.reduceAdd, Nat.reduceSub, Nat.reduceLeDiff, Nat.reduceEqDiff, Nat.reduceLT, ↓reduceIte, List.length_cons, List.length_nil, List.set_cons_zero, List.set_cons_succ, Nat.le_refl, Nat.zero_le, Nat.zero_sub, Nat.sub_zero, List.nil_append, List.cons_append, Option.toList_some, Option.toList_none, eq_self]
  have e1 : (rNode s (A 2 0) x y).2.1 = s.1 := by
    unfold rNode
    split
    · rfl
    · cases rNdF s x.toNatClampNeg y.toNatClampNeg 6 0 <;> rfl
  have e2 : ∀ j, j ≠ 4 → (rNode s (A 2 0) x y).2.2 j = s.2 j := by
    intro j hj
    unfold rNode
    split
    · rfl
    · cases rNdF s x.toNatClampNeg y.toNatClampNeg 6 0
      · rfl
      · exact up2_n hj
  refine hq M' v' h' (hm.msh (hm.1.sm (k' 4 (by decide)) (k' 10 (by decide)) (k' 14 (by decide)) (k' 15 (by decide)) (by rw [e1]) (by rw [e1]) (fun j _ _ => e2 j (by omega))) (fun f _ => by rw [e1]) (fun j hj => e2 j (by omega)) (by rw [e1]) (fun kd hk => k' kd (by omega))) d' k'
set_option maxRecDepth 100000 in
set_option maxHeartbeats 4000000 in
theorem mc16 {x k y p : Int32} (h : cR E B M0 M A v) (hm : cQ A v s) (hq : ∀ M' v', cR E B M0 M' A v' → cQ A v' (rCmd s (A 2 1) x k y p).2 → kF v v' → Q (some (.int (rCmd s (A 2 1) x k y p).1)) M' nx) : XC E 16 [.ref (A 0 0), .int x, .int k, .int y, .int p] M nx Q := by
  have hX := h.1.2.2.2.2.1
  obtain ⟨_, _, n9, n34⟩ := hm.2.1.2.1
  rw [rCmd, n34] at hq
  refine XC.run 60 [] ?_
  simp only [n16, n29, t16, ↓xh, ↓xst, ↓xrunE, ↓rG, rL, rSt, updA, List.elem_nil, List.elem_cons, Nat.reduceBEq, Bool.false_eq_true, if_false, if_true, true_and, and_true, true_or, or_true, not_false_eq_true, Nat.reduceAdd, Nat.reduceSub, Nat.reduceLeDiff, Nat.reduceEqDiff, Nat.reduceLT, ↓reduceIte, List.length_cons, List.length_nil, List.set_cons_zero, List.set_cons_succ, Nat.le_refl, Nat.zero_le, Nat.zero_sub, Nat.sub_zero, List.nil_append, List.cons_append, Option.toList_some, Option.toList_none, eq_self, ↓cFx h]
  refine mc29 h n9 ?_
  refine XZ.runH 60 [] ?_
  by_cases a : x < 0 ∨ nI (A 2 3) ≤ x
  · rw [if_pos a]
    rw [if_pos (Or.inl a)] at hq
    simp only [n16, t16, ↓xh, ↓xst, ↓xrunE, ↓rG, rL, rSt, updA, List.elem_nil, List.elem_cons, Nat.reduceBEq, Bool.false_eq_true, if_false, if_true, true_and, and_true, true_or, or_true, not_false_eq_true, Nat.reduceAdd, Nat.reduceSub, Nat.reduceLeDiff, Nat.reduceEqDiff, Nat.reduceLT, ↓reduceIte, List.length_cons, List.length_nil, List.set_cons_zero, List.set_cons_succ, Nat.le_refl, Nat.zero_le, Nat.zero_sub, Nat.sub_zero, List.nil_append, List.cons_append, Option.toList_some, Option.toList_none, eq_self]
    exact hq M v h hm (kF.rf v)
  rw [if_neg a]
  obtain ⟨c, hc, rfl⟩ := nIv (X := A 2 3) (fun z => a (Or.inl z)) (fun z => a (Or.inr z)) (by omega)
  rw [nI_clamp (by omega)] at hq
  have ic := nIx (show c < 12 by omega)
  obtain ⟨_, ⟨f3, f4, f5, f6, _⟩, _⟩ := hm.2.2.2.2 c hc
  by_cases d : s.2 28 c = 0
  rotate_left
  · rw [if_pos (Or.inr d)] at hq
    simp only [n16, t16, ↓xh, ↓xst, ↓xrunE, ↓rG, rL, rSt, updA, List.elem_nil, List.elem_cons, Nat.reduceBEq, Bool.false_eq_true, if_false, if_true, true_and, and_true, true_or, or_true, not_false_eq_true, Nat.reduceAdd, Nat.reduceSub, Nat.reduceLeDiff, Nat.reduceEqDiff, Nat.reduceLT, ↓reduceIte, List.length_cons, List.length_nil, List.set_cons_zero, List.set_cons_succ, Nat.le_refl, Nat.zero_le, Nat.zero_sub, Nat.sub_zero, List.nil_append, List.cons_append, Option.toList_some, Option.toList_none, eq_self, show ¬ (1 : Int32) = 0 by decide, ↓cFx h, ic, hc, ↓cSe h hc, f3, d]
    exact hq M v h hm (kF.rf v)
  rw [if_neg (by rintro (z | z); exact a z; exact z d)] at hq
  by_cases st : s.2 31 c = 1
  · rw [if_pos st] at hq
    simp only [n16, t16, ↓xh, ↓xst, ↓xrunE, ↓rG, rL, rSt, updA, List.elem_nil, List.elem_cons, Nat.reduceBEq, Bool.false_eq_true, if_false, if_true, true_and, and_true, true_or, or_true, not_false_eq_true, Nat.reduceAdd, Nat.reduceSub, Nat.reduceLeDiff, Nat.reduceEqDiff, Nat.reduceLT, ↓reduceIte, List.length_cons, List.length_nil, List.set_cons_zero, List.set_cons_succ, Nat.le_refl, Nat.zero_le, Nat.zero_sub, Nat.sub_zero, List.nil_append, List.cons_append, Option.toList_some, Option.toList_none, eq_self, show ¬ (1 : Int32) = 0 by decide, ↓cFx h, ic, hc, ↓cSe h hc, f3, d, f6, st]
    exact hq M v h hm (kF.rf v)
  rw [if_neg st] at hq
  by_cases k1 : k < 0
  · rw [if_pos (Or.inl k1)] at hq
    simp only [n16, t16, ↓xh, ↓xst, ↓xrunE, ↓rG, rL, rSt, updA, List.elem_nil, List.elem_cons, Nat.reduceBEq, Bool.false_eq_true, if_false, if_true, true_and, and_true, true_or, or_true, not_false_eq_true, Nat.reduceAdd, Nat.reduceSub, Nat.reduceLeDiff, Nat.reduceEqDiff, Nat.reduceLT, ↓reduceIte, List.length_cons, List.length_nil, List.set_cons_zero, List.set_cons_succ, Nat.le_refl, Nat.zero_le, Nat.zero_sub, Nat.sub_zero, List.nil_append, List.cons_append, Option.toList_some, Option.toList_none, eq_self, show ¬ (1 : Int32) = 0 by decide, ↓cFx h, ic, hc, ↓cSe h hc, f3, d, f6, st, lT k1]
    exact hq M v h hm (kF.rf v)
  by_cases k2 : 7 < k
  · rw [if_pos (Or.inr (Or.inl k2))] at hq
    simp only [n16, t16, ↓xh, ↓xst, ↓xrunE, ↓rG, rL, rSt, updA, List.elem_nil, List.elem_cons, Nat.reduceBEq, Bool.false_eq_true, if_false, if_true, true_and, and_true, true_or, or_true, not_false_eq_true, Nat.reduceAdd, Nat.reduceSub, Nat.reduceLeDiff, Nat.reduceEqDiff, Nat.reduceLT, ↓reduceIte, List.length_cons, List.length_nil, List.set_cons_zero, List.set_cons_succ, Nat.le_refl, Nat.zero_le, Nat.zero_sub, Nat.sub_zero, List.nil_append, List.cons_append, Option.toList_some, Option.toList_none, eq_self, show ¬ (1 : Int32) = 0 by decide, ↓cFx h, ic, hc, ↓cSe h hc, f3, d, f6, st, lF k1, i8_7.mpr k2]
    exact hq M v h hm (kF.rf v)
  have k8 : ¬ 8 ≤ k := fun z => k2 (i8_7.mp z)
  by_cases p1 : p < 1
  · rw [if_pos (Or.inr (Or.inr (Or.inl p1)))] at hq
    simp only [n16, t16, ↓xh, ↓xst, ↓xrunE, ↓rG, rL, rSt, updA, List.elem_nil, List.elem_cons, Nat.reduceBEq, Bool.false_eq_true, if_false, if_true, true_and, and_true, true_or, or_true, not_false_eq_true, Nat.reduceAdd, Nat.reduceSub, Nat.reduceLeDiff, Nat.reduceEqDiff, Nat.reduceLT, ↓reduceIte, List.length_cons, List.length_nil, List.set_cons_zero, List.set_cons_succ, Nat.le_refl, Nat.zero_le, Nat.zero_sub, Nat.sub_zero, List.nil_append, List.cons_append, Option.toList_some, Option.toList_none, eq_self, show ¬ (1 : Int32) = 0 by decide, ↓cFx h, ic, hc, ↓cSe h hc, f3, d, f6, st, lF k1, k8, p1]
    exact hq M v h hm (kF.rf v)
  by_cases p8 : p ≤ 8
  rotate_left
  · rw [if_pos (Or.inr (Or.inr (Or.inr p8)))] at hq
    simp only [n16, t16, ↓xh, ↓xst, ↓xrunE, ↓rG, rL, rSt, updA, List.elem_nil, List.elem_cons, Nat.reduceBEq, Bool.false_eq_true, if_false, if_true, true_and, and_true, true_or, or_true, not_false_eq_true, Nat.reduceAdd, Nat.reduceSub, Nat.reduceLeDiff, Nat.reduceEqDiff, Nat.reduceLT, ↓reduceIte, List.length_cons, List.length_nil, List.set_cons_zero, List.set_cons_succ, Nat.le_refl, Nat.zero_le, Nat.zero_sub, Nat.sub_zero, List.nil_append, List.cons_append, Option.toList_some, Option.toList_none, eq_self, show ¬ (1 : Int32) = 0 by decide, ↓cFx h, ic, hc, ↓cSe h hc, f3, d, f6, st, lF k1, k8, p1, p8]
    exact hq M v h hm (kF.rf v)
  rw [if_neg (by rintro (z | z | z | z); exact k1 z; exact k2 z; exact p1 z; exact z p8)] at hq
  simp only [n16, n69, t16, ↓xh, ↓xst, ↓xrunE, ↓rG, rL, rSt, updA, List.elem_nil, List.elem_cons, Nat.reduceBEq, Bool.false_eq_true, if_false, if_true, true_and, and_true, true_or, or_true, not_false_eq_true, Nat.reduceAdd, Nat.reduceSub, Nat.reduceLeDiff, Nat.reduceEqDiff, Nat.reduceLT, ↓reduceIte, List.length_cons, List.length_nil, List.set_cons_zero, List.set_cons_succ, Nat.le_refl, Nat.zero_le, Nat.zero_sub, Nat.sub_zero, List.nil_append, List.cons_append, Option.toList_some, Option.toList_none, eq_self, show ¬ (1 : Int32) = 0 by decide, ↓cFx h, ic, hc, ↓cSe h hc, f3, d, f6, st, lF k1, k8, p1, p8]
  obtain ⟨q, hq8, rfl⟩ := nIv (X := 8) k1 k8 (by decide)
  have p0 : ¬ p < 0 := fun z => p1 (Int32.lt_trans z (by decide))
  have p9 : ¬ nI 9 ≤ p := fun z => absurd (Int32.le_trans z p8) (by decide)
  obtain ⟨pp, hp9, rfl⟩ := nIv (X := 9) p0 p9 (by decide)
  refine mc69 h hc (fun M1 h1 => ?_)
  have m1 := hm.beg (x := y) hc hq8 hp9
  refine XZ.runH 60 [] ?_
  simp only [n16, n30, t16, ↓xh, ↓xst, ↓xrunE, ↓rG, rL, rSt, updA, List.elem_nil, List.elem_cons, Nat.reduceBEq, Bool.false_eq_true, if_false, if_true, true_and, and_true, true_or, or_true, not_false_eq_true, Nat.reduceAdd, Nat.reduceSub, Nat.reduceLeDiff, Nat.reduceEqDiff, Nat.reduceLT, ↓reduceIte, List.length_cons, List.length_nil, List.set_cons_zero, List.set_cons_succ, Nat.le_refl, Nat.zero_le, Nat.zero_sub, Nat.sub_zero, List.nil_append, List.cons_append, Option.toList_some, Option.toList_none, eq_self, ↓cFx h1]
  refine mc30 h1 m1 hc (fun M2 v2 h2 m2 k2' => ?_)
  have f5' := (m2.2.2.2.2 c hc).2.1.2.2.1
  refine XZ.runH 60 [] ?_
  simp only [n16, t16, ↓xh, ↓xst, ↓xrunE, ↓rG, rL, rSt, updA, List.elem_nil, List.elem_cons, Nat.reduceBEq, Bool.false_eq_true, if_false, if_true, true_and, and_true, true_or, or_true, not_false_eq_true, Nat.reduceAdd, Nat.reduceSub, Nat.reduceLeDiff, Nat.reduceEqDiff, Nat.reduceLT, ↓reduceIte, List.length_cons, List.length_nil, List.set_cons_zero, List.set_cons_succ, Nat.le_refl, Nat.zero_le, Nat.zero_sub, Nat.sub_zero, List.nil_append, List.cons_append, Option.toList_some, Option.toList_none, eq_self, ↓cSe h2 hc, f5']
  exact hq M2 v2 h2 m2 ((kF.uv (by omega)).tr k2')
end NOD
