/-! the tick -/
theorem cQ.msh {A : cA} {v v' : cV} {s s' : rS} (h : cQ A v s) (m : cM A v' s') (y1 : ∀ f, f ≠ 21 → s'.1 f = s.1 f) (y2 : ∀ j, 16 ≤ j → s'.2 j = s.2 j) (e21 : s'.1 21 = s.1 21) (k : ∀ kd, kd = 0 ∨ kd = 9 ∨ kd = 11 ∨ kd = 19 ∨ kd = 20 ∨ kd = 22 → v' kd = v kd) : cQ A v' s' := by
  obtain ⟨_, n, l, sv, se⟩ := h
  refine ⟨m, ?_, ?_, fun i hi => ?_, fun c hc => ?_⟩
  · unfold cN at n ⊢
    rw [k 0 (by omega), y1 0 (by decide), y1 1 (by decide), y1 2 (by decide), e21, y1 22 (by decide), y1 34 (by decide)]
    exact n
  · unfold cLn at l ⊢
    rw [k 9 (by omega), y1 47 (by decide), y1 48 (by decide)]
    exact l
  · exact (sv i hi).cg (by rw [k 19 (by omega)]) (by rw [k 20 (by omega)]) (fun x _ => by rw [k 11 (by omega)]) (rSi'.of e21 (fun j h1 h2 => y2 j (by omega)) i)
  · exact (se c hc).cg (by rw [k 22 (by omega)]) (fun j h1 h2 => by rw [y2 j (by omega)])
/-- the time goes on -/
theorem cQ.now {A : cA} {v : cV} {s : rS} {T : Nat} {g : Nat → Int32} (h : cQ A v s) (hT : T + 1 < 2 ^ 30) (eT : s.1 21 = nI T) (g0 : g 0 = v 0 0 0 ∧ g 1 = v 0 0 1 ∧ g 2 = v 0 0 2 ∧ g 7 = v 0 0 7 ∧ g 9 = v 0 0 9 ∧ g 14 = s.1 21 + 1) : cQ A (uv v 0 0 g) (rT1 s) := by
  obtain ⟨m, n, l, sv, se⟩ := h
  have z : ∀ f, f ≠ 21 → (rT1 s).1 f = s.1 f := fun f hf => by simp [rT1, upd, hf]
  have z21 : (rT1 s).1 21 = s.1 21 + 1 := by simp [rT1, upd]
  have e' : s.1 21 + 1 = nI (T + 1) := by rw [eT, nI_1]
  refine ⟨m.sm (uv_k (by decide)) (uv_k (by decide)) (uv_k (by decide)) (uv_k (by decide)) (z 7 (by decide)) (z 9 (by decide)) (fun j _ _ => rfl), ?_, ?_, fun i hi => ?_, fun c hc => (se c hc).cg (by rw [uv_k (by decide)]) (fun j _ _ => rfl)⟩
  · unfold cN at n ⊢
    rw [uv_s, z 0 (by decide), z 1 (by decide), z 2 (by decide), z 22 (by decide), z 34 (by decide), z21, g0.1, g0.2.1, g0.2.2.1, g0.2.2.2.1, g0.2.2.2.2.1, g0.2.2.2.2.2]
    exact ⟨⟨n.1.1, n.1.2.1, n.1.2.2.1, rfl⟩, n.2.1, n.2.2.1, T + 1, hT, e'⟩
  · unfold cLn at l ⊢
    rw [uv_k (by decide), z 47 (by decide), z 48 (by decide)]
    exact l
  · obtain ⟨s1, s2, s3, s4, s5, s6, L, hL, h20, hl, T', hT', eT', ht⟩ := sv i hi
    have tt : T' = T := nI_inj (by omega) (by omega) (eT'.symm.trans eT)
    subst tt
    refine ⟨by rw [uv_k (by decide)]; exact s1, s2, by rw [uv_k (by decide)]; exact s3, s4, by rw [uv_k (by decide)]; exact s5, fun k hk => by rw [uv_k (by decide)]; exact s6 k hk, L, hL, h20, ?_, T' + 1, hT, by rw [z21]; exact e', fun e he => ?_⟩
    · rw [uv_k (by decide)]
      exact hl
    · obtain ⟨a, ha, ea⟩ := ht e he
      exact ⟨a, by omega, ea⟩
theorem nI_and1 (n : Nat) : nI n &&& 1 = nI (n % 2) := by
  apply Int32.toBitVec_inj.mp
  have : BitVec.ofNat 32 (n &&& 1) = BitVec.ofNat 32 n &&& BitVec.ofNat 32 1 := BitVec.ofNat_and ..
  rw [Nat.and_one_is_mod] at this
  exact this.symm
theorem nI_rem2 {n : Nat} (hn : n < 2 ^ 31) : nI n - nI n / 2 * 2 = nI (n % 2) := by
  have e : nI n / 2 = nI (n / 2) := by
    apply Int32.toInt_inj.mp
    rw [Int32.toInt_div, nI_toInt hn, nI_toInt (by omega)]
    rw [show (2 : Int32).toInt = 2 by decide]
    rw [Int.tdiv_eq_ediv_of_nonneg (by omega)]
    apply Int.bmod_eq_of_le <;> omega
  rw [e]
  have : nI (n / 2) * 2 = nI (n / 2 * 2) := (Int32.ofNat_mul (n / 2) 2).symm
  rw [this, nI_subn n (n / 2 * 2) (by omega)]
  congr 1
  omega
section TIK
variable {E : xE} {B nx : Nat} {M0 M : xM} {A : cA} {v : cV} {s : rS} {Q : Option Value → xM → Nat → Prop}
set_option maxRecDepth 100000 in
set_option maxHeartbeats 4000000 in
theorem ml26 : ∀ l i M1 v1 s1, i + l = A 2 2 → cR E B M0 M1 A v1 → cQ A v1 s1 → (∀ M' v', cR E B M0 M' A v' → cQ A v' (rRl l i s1) → kF v1 v' → Q none M' nx) → XZ E 26 (xZ E 26 Q) 2 [some (.ref (A 0 0)), some (.int (nI i))] [] M1 nx 0 0 := by
  intro l
  induction l with
  | zero =>
    intro i M1 v1 s1 hi h1 hm hq
    obtain rfl : i = A 2 2 := by omega
    have hS := h1.1.2.2.2.1
    have e := eT (nI_le (Nat.le_refl (A 2 2)) (show A 2 2 < 2 ^ 31 by omega))
    refine XZ.runH 60 [2] ?_
    simp only [n26, t26, ↓xh, ↓xst, ↓xrunE, ↓rG, rL, rSt, updA, List.elem_nil, List.elem_cons, Nat.reduceBEq, Bool.false_eq_true, if_false, if_true, true_and, and_true, true_or, or_true, not_false_eq_true, Nat.reduceAdd, Nat.reduceSub, Nat.reduceLeDiff, Nat.reduceEqDiff, Nat.reduceLT, ↓reduceIte, List.length_cons, List.length_nil, List.set_cons_zero, List.set_cons_succ, Nat.le_refl, Nat.zero_le, Nat.zero_sub, Nat.sub_zero, List.nil_append, List.cons_append, Option.toList_some, Option.toList_none, eq_self, ↓cFx h1, hm.2.1.2.1.1, e]
    exact hq M1 v1 h1 hm (kF.rf _)
  | succ l ih =>
    intro i M1 v1 s1 hi h1 hm hq
    have hS := h1.1.2.2.2.1
    have i1 : i < A 2 2 := by omega
    have e := eF (nI_ge i1 (show A 2 2 < 2 ^ 31 by omega))
    have ii := nIx (show i < 16 by omega)
    rw [rRl] at hq
    refine XZ.runH 60 [2] ?_
    simp only [n26, n63, t26, ↓xh, ↓xst, ↓xrunE, ↓rG, rL, rSt, updA, List.elem_nil, List.elem_cons, Nat.reduceBEq, Bool.false_eq_true, if_false, if_true, true_and, and_true, true_or, or_true, not_false_eq_true, Nat.reduceAdd, Nat.reduceSub, Nat.reduceLeDiff, Nat.reduceEqDiff, Nat.reduceLT, ↓reduceIte, List.length_cons, List.length_nil, List.set_cons_zero, List.set_cons_succ, Nat.le_refl, Nat.zero_le, Nat.zero_sub, Nat.sub_zero, List.nil_append, List.cons_append, Option.toList_some, Option.toList_none, eq_self, ↓cFx h1, hm.2.1.2.1.1, e, ii, i1, ↓cSv h1 i1, hm.2.1.1.2.2.1, hm.2.1.1.2.2.2]
    refine mc63 h1 i1 hm (fun M2 v2 h2 m2 k2 => ?_)
    refine XZ.runH 60 [2] ?_
    simp only [n26, t26, ↓xh, ↓xst, ↓xrunE, ↓rG, rL, rSt, updA, List.elem_nil, List.elem_cons, Nat.reduceBEq, Bool.false_eq_true, if_false, if_true, true_and, and_true, true_or, or_true, not_false_eq_true, Nat.reduceAdd, Nat.reduceSub, Nat.reduceLeDiff, Nat.reduceEqDiff, Nat.reduceLT, ↓reduceIte, List.length_cons, List.length_nil, List.set_cons_zero, List.set_cons_succ, Nat.le_refl, Nat.zero_le, Nat.zero_sub, Nat.sub_zero, List.nil_append, List.cons_append, Option.toList_some, Option.toList_none, eq_self, nI_1]
    exact ih (i + 1) M2 v2 _ (by omega) h2 m2 (fun M' v' h' m' k' => hq M' v' h' m' (kF.tr (fun kd _ a _ _ _ => k2 kd a) k'))
set_option maxRecDepth 100000 in
set_option maxHeartbeats 4000000 in
theorem mc26 (h : cR E B M0 M A v) (hm : cQ A v s) (hq : ∀ M' v', cR E B M0 M' A v' → cQ A v' (rRl (A 2 2) 0 s) → kF v v' → Q none M' nx) : XC E 26 [.ref (A 0 0)] M nx Q := by
  refine XC.run 60 [2] ?_
  simp only [n26, t26, ↓xh, ↓xst, ↓xrunE, ↓rG, rL, rSt, updA, List.elem_nil, List.elem_cons, Nat.reduceBEq, Bool.false_eq_true, if_false, if_true, true_and, and_true, true_or, or_true, not_false_eq_true, Nat.reduceAdd, Nat.reduceSub, Nat.reduceLeDiff, Nat.reduceEqDiff, Nat.reduceLT, ↓reduceIte, List.length_cons, List.length_nil, List.set_cons_zero, List.set_cons_succ, Nat.le_refl, Nat.zero_le, Nat.zero_sub, Nat.sub_zero, List.nil_append, List.cons_append, Option.toList_some, Option.toList_none, eq_self]
  exact ml26 (A 2 2) 0 M v s (by omega) h hm hq
set_option maxRecDepth 100000 in
set_option maxHeartbeats 4000000 in
theorem ml27 : ∀ l c M1 v1 s1 l2, c + l = A 2 3 → cR E B M0 M1 A v1 → cQ A v1 s1 → (∀ M' v', cR E B M0 M' A v' → cQ A v' (rSs (A 2 1) l c s1) → kF v1 v' → Q none M' nx) → XZ E 27 (xZ E 27 Q) 2 [some (.ref (A 0 0)), some (.int (nI c)), l2] [] M1 nx 0 0 := by
  intro l
  induction l with
  | zero =>
    intro c M1 v1 s1 l2 hc h1 hm hq
    obtain rfl : c = A 2 3 := by omega
    have hX := h1.1.2.2.2.2.1
    have e := eT (nI_le (Nat.le_refl (A 2 3)) (show A 2 3 < 2 ^ 31 by omega))
    refine XZ.runH 60 [2] ?_
    simp only [n27, t27, ↓xh, ↓xst, ↓xrunE, ↓rG, rL, rSt, updA, List.elem_nil, List.elem_cons, Nat.reduceBEq, Bool.false_eq_true, if_false, if_true, true_and, and_true, true_or, or_true, not_false_eq_true, Nat.reduceAdd, Nat.reduceSub, Nat.reduceLeDiff, Nat.reduceEqDiff, Nat.reduceLT, ↓reduceIte, List.length_cons, List.length_nil, List.set_cons_zero, List.set_cons_succ, Nat.le_refl, Nat.zero_le, Nat.zero_sub, Nat.sub_zero, List.nil_append, List.cons_append, Option.toList_some, Option.toList_none, eq_self, ↓cFx h1, hm.2.1.2.1.2.2.1, e]
    exact hq M1 v1 h1 hm (kF.rf _)
  | succ l ih =>
    intro c M1 v1 s1 l2 hc h1 hm hq
    have hX := h1.1.2.2.2.2.1
    have c1 : c < A 2 3 := by omega
    have e := eF (nI_ge c1 (show A 2 3 < 2 ^ 31 by omega))
    have ic := nIx (show c < 12 by omega)
    have iS := h1.1.2.2.2.2.2 c c1
    have k0 := hm.2.2.2.2 c c1
    obtain ⟨⟨g0, g1, g2, g3⟩, ⟨f3, _⟩, b28, _⟩ := id k0
    have sv0 := hm.2.2.2.1 (A 10 c) iS
    have eb : rSn s1 c = rHm s1 (A 10 c) := by unfold rSn rHm; rw [g2]
    rw [rSs] at hq
    refine XZ.runH 60 [2] ?_
    by_cases op : s1.2 28 c = 0
    rotate_left
    · have z : rSil s1 (A 2 1) c = s1 := by unfold rSil; rw [if_pos op]
      rw [z] at hq
      simp only [n27, t27, ↓xh, ↓xst, ↓xrunE, ↓rG, rL, rSt, updA, List.elem_nil, List.elem_cons, Nat.reduceBEq, Bool.false_eq_true, if_false, if_true, true_and, and_true, true_or, or_true, not_false_eq_true, Nat.reduceAdd, Nat.reduceSub, Nat.reduceLeDiff, Nat.reduceEqDiff, Nat.reduceLT, ↓reduceIte, List.length_cons, List.length_nil, List.set_cons_zero, List.set_cons_succ, Nat.le_refl, Nat.zero_le, Nat.zero_sub, Nat.sub_zero, List.nil_append, List.cons_append, Option.toList_some, Option.toList_none, eq_self, ↓cFx h1, hm.2.1.2.1.2.2.1, e, ic, c1, ↓cSe h1 c1, f3, op, nI_1]
      exact ih (c + 1) M1 v1 s1 _ (by omega) h1 hm hq
    simp only [n27, n44, t27, ↓xh, ↓xst, ↓xrunE, ↓rG, rL, rSt, updA, List.elem_nil, List.elem_cons, Nat.reduceBEq, Bool.false_eq_true, if_false, if_true, true_and, and_true, true_or, or_true, not_false_eq_true, Nat.reduceAdd, Nat.reduceSub, Nat.reduceLeDiff, Nat.reduceEqDiff, Nat.reduceLT, ↓reduceIte, List.length_cons, List.length_nil, List.set_cons_zero, List.set_cons_succ, Nat.le_refl, Nat.zero_le, Nat.zero_sub, Nat.sub_zero, List.nil_append, List.cons_append, Option.toList_some, Option.toList_none, eq_self, ↓cFx h1, hm.2.1.2.1.2.2.1, e, ic, c1, ↓cSe h1 c1, f3, op, ↓cSv h1 iS, g1, sv0.1]
    refine mc44 h1 hm.1 g3 sv0.2.1 ?_
    refine XZ.runH 60 [2] ?_
    simp only [n27, n70, t27, ↓xh, ↓xst, ↓xrunE, ↓rG, rL, rSt, updA, List.elem_nil, List.elem_cons, Nat.reduceBEq, Bool.false_eq_true, if_false, if_true, true_and, and_true, true_or, or_true, not_false_eq_true, Nat.reduceAdd, Nat.reduceSub, Nat.reduceLeDiff, Nat.reduceEqDiff, Nat.reduceLT, ↓reduceIte, List.length_cons, List.length_nil, List.set_cons_zero, List.set_cons_succ, Nat.le_refl, Nat.zero_le, Nat.zero_sub, Nat.sub_zero, List.nil_append, List.cons_append, Option.toList_some, Option.toList_none, eq_self, ↓cSe h1 c1]
    refine mc70 h1 c1 (fun M2 h2 => ?_)
    have m2 := hm.hea (R := A 2 1) (j := if rWay s1 (A 2 1) (rCn s1 c) (rHm s1 (A 10 c)) < 0 ∨ rWay s1 (A 2 1) (rHm s1 (A 10 c)) (rCn s1 c) < 0 then 0 else 1) c1 op (by rw [eb])
    refine XZ.runH 60 [2] ?_
    simp only [n27, t27, ↓xh, ↓xst, ↓xrunE, ↓rG, rL, rSt, updA, List.elem_nil, List.elem_cons, Nat.reduceBEq, Bool.false_eq_true, if_false, if_true, true_and, and_true, true_or, or_true, not_false_eq_true, Nat.reduceAdd, Nat.reduceSub, Nat.reduceLeDiff, Nat.reduceEqDiff, Nat.reduceLT, ↓reduceIte, List.length_cons, List.length_nil, List.set_cons_zero, List.set_cons_succ, Nat.le_refl, Nat.zero_le, Nat.zero_sub, Nat.sub_zero, List.nil_append, List.cons_append, Option.toList_some, Option.toList_none, eq_self, nI_1]
    exact ih (c + 1) M2 _ _ _ (by omega) h2 m2 (fun M' v' h' m' k' => hq M' v' h' m' (kF.tr (kF.uv (by omega)) k'))
set_option maxRecDepth 100000 in
set_option maxHeartbeats 4000000 in
theorem mc27 (h : cR E B M0 M A v) (hm : cQ A v s) (hq : ∀ M' v', cR E B M0 M' A v' → cQ A v' (rSs (A 2 1) (A 2 3) 0 s) → kF v v' → Q none M' nx) : XC E 27 [.ref (A 0 0)] M nx Q := by
  refine XC.run 60 [2] ?_
  simp only [n27, t27, ↓xh, ↓xst, ↓xrunE, ↓rG, rL, rSt, updA, List.elem_nil, List.elem_cons, Nat.reduceBEq, Bool.false_eq_true, if_false, if_true, true_and, and_true, true_or, or_true, not_false_eq_true, Nat.reduceAdd, Nat.reduceSub, Nat.reduceLeDiff, Nat.reduceEqDiff, Nat.reduceLT, ↓reduceIte, List.length_cons, List.length_nil, List.set_cons_zero, List.set_cons_succ, Nat.le_refl, Nat.zero_le, Nat.zero_sub, Nat.sub_zero, List.nil_append, List.cons_append, Option.toList_some, Option.toList_none, eq_self]
  exact ml27 (A 2 3) 0 M v s _ (by omega) h hm hq
set_option maxRecDepth 100000 in
set_option maxHeartbeats 4000000 in
theorem ml28 : ∀ l c M1 v1 s1 l2, c + l = A 2 3 → cR E B M0 M1 A v1 → cQ A v1 s1 → (∀ M' v', cR E B M0 M' A v' → cQ A v' (rAs (A 2 1) l c s1) → kF v1 v' → Q none M' nx) → XZ E 28 (xZ E 28 Q) 2 [some (.ref (A 0 0)), some (.int (nI c)), l2] [] M1 nx 0 0 := by
  intro l
  induction l with
  | zero =>
    intro c M1 v1 s1 l2 hc h1 hm hq
    obtain rfl : c = A 2 3 := by omega
    have hX := h1.1.2.2.2.2.1
    have e := eT (nI_le (Nat.le_refl (A 2 3)) (show A 2 3 < 2 ^ 31 by omega))
    refine XZ.runH 60 [2] ?_
    simp only [n28, t28, ↓xh, ↓xst, ↓xrunE, ↓rG, rL, rSt, updA, List.elem_nil, List.elem_cons, Nat.reduceBEq, Bool.false_eq_true, if_false, if_true, true_and, and_true, true_or, or_true, not_false_eq_true, Nat.reduceAdd, Nat.reduceSub, Nat.reduceLeDiff, Nat.reduceEqDiff, Nat.reduceLT, ↓reduceIte, List.length_cons, List.length_nil, List.set_cons_zero, List.set_cons_succ, Nat.le_refl, Nat.zero_le, Nat.zero_sub, Nat.sub_zero, List.nil_append, List.cons_append, Option.toList_some, Option.toList_none, eq_self, ↓cFx h1, hm.2.1.2.1.2.2.1, e]
    exact hq M1 v1 h1 hm (kF.rf _)
  | succ l ih =>
    intro c M1 v1 s1 l2 hc h1 hm hq
    have hX := h1.1.2.2.2.2.1
    have c1 : c < A 2 3 := by omega
    have e := eF (nI_ge c1 (show A 2 3 < 2 ^ 31 by omega))
    have ic := nIx (show c < 12 by omega)
    have bs : xb E ≤ A 6 c := h1.1.lo (kd := 22) (i := c) c1
    have k0 := hm.2.2.2.2 c c1
    obtain ⟨_, ⟨f3, f4, f5, f6, f7, f8, f9, f10, f11, f12⟩, _⟩ := id k0
    obtain ⟨n0, n1, n2, n14⟩ := hm.2.1.1
    rw [rAs, rAl] at hq
    refine XZ.runH 60 [2, 60] ?_
    by_cases st : s1.2 31 c = 1
    rotate_left
    · rw [if_neg (fun z => st z.1)] at hq
      simp only [n28, t28, ↓xh, ↓xst, ↓xrunE, ↓rG, rL, rSt, updA, List.elem_nil, List.elem_cons, Nat.reduceBEq, Bool.false_eq_true, if_false, if_true, true_and, and_true, true_or, or_true, not_false_eq_true, Nat.reduceAdd, Nat.reduceSub, Nat.reduceLeDiff, Nat.reduceEqDiff, Nat.reduceLT, ↓reduceIte, List.length_cons, List.length_nil, List.set_cons_zero, List.set_cons_succ, Nat.le_refl, Nat.zero_le, Nat.zero_sub, Nat.sub_zero, List.nil_append, List.cons_append, Option.toList_some, Option.toList_none, eq_self, ↓cFx h1, hm.2.1.2.1.2.2.1, e, ic, c1, ↓cSe h1 c1, f6, st, nI_1]
      exact ih (c + 1) M1 v1 s1 _ (by omega) h1 hm hq
    by_cases du : s1.1 21 - s1.2 36 c < s1.1 0
    · rw [if_neg (fun z => z.2 du)] at hq
      simp only [n28, t28, ↓xh, ↓xst, ↓xrunE, ↓rG, rL, rSt, updA, List.elem_nil, List.elem_cons, Nat.reduceBEq, Bool.false_eq_true, if_false, if_true, true_and, and_true, true_or, or_true, not_false_eq_true, Nat.reduceAdd, Nat.reduceSub, Nat.reduceLeDiff, Nat.reduceEqDiff, Nat.reduceLT, ↓reduceIte, List.length_cons, List.length_nil, List.set_cons_zero, List.set_cons_succ, Nat.le_refl, Nat.zero_le, Nat.zero_sub, Nat.sub_zero, List.nil_append, List.cons_append, Option.toList_some, Option.toList_none, eq_self, ↓cFx h1, hm.2.1.2.1.2.2.1, e, ic, c1, ↓cSe h1 c1, f6, st, n14, n0, f11, lT du, nI_1]
      exact ih (c + 1) M1 v1 s1 _ (by omega) h1 hm hq
    rw [if_pos ⟨st, du⟩] at hq
    by_cases tr : s1.2 35 c < s1.1 1
    · rw [if_neg (fun z => z tr)] at hq
      simp only [n28, n30, t28, ↓xh, ↓xst, ↓xrunE, ↓rG, rL, rSt, updA, List.elem_nil, List.elem_cons, Nat.reduceBEq, Bool.false_eq_true, if_false, if_true, true_and, and_true, true_or, or_true, not_false_eq_true, Nat.reduceAdd, Nat.reduceSub, Nat.reduceLeDiff, Nat.reduceEqDiff, Nat.reduceLT, ↓reduceIte, List.length_cons, List.length_nil, List.set_cons_zero, List.set_cons_succ, Nat.le_refl, Nat.zero_le, Nat.zero_sub, Nat.sub_zero, List.nil_append, List.cons_append, Option.toList_some, Option.toList_none, eq_self, ↓cFx h1, hm.2.1.2.1.2.2.1, e, ic, c1, ↓cSe h1 c1, f6, st, n14, n0, n1, f10, f11, lF du, tr]
      refine mc30 h1 hm c1 (fun M2 v2 h2 m2 k2 => ?_)
      refine XZ.runH 60 [2] ?_
      simp only [n28, t28, ↓xh, ↓xst, ↓xrunE, ↓rG, rL, rSt, updA, List.elem_nil, List.elem_cons, Nat.reduceBEq, Bool.false_eq_true, if_false, if_true, true_and, and_true, true_or, or_true, not_false_eq_true, Nat.reduceAdd, Nat.reduceSub, Nat.reduceLeDiff, Nat.reduceEqDiff, Nat.reduceLT, ↓reduceIte, List.length_cons, List.length_nil, List.set_cons_zero, List.set_cons_succ, Nat.le_refl, Nat.zero_le, Nat.zero_sub, Nat.sub_zero, List.nil_append, List.cons_append, Option.toList_some, Option.toList_none, eq_self, nI_1]
      exact ih (c + 1) M2 v2 _ _ (by omega) h2 m2 (fun M' v' h' m' k' => hq M' v' h' m' (k2.tr k'))
    · rw [if_pos tr] at hq
      simp only [n28, t28, ↓xh, ↓xst, ↓xrunE, ↓rG, rL, rSt, updA, List.elem_nil, List.elem_cons, Nat.reduceBEq, Bool.false_eq_true, if_false, if_true, true_and, and_true, true_or, or_true, not_false_eq_true, Nat.reduceAdd, Nat.reduceSub, Nat.reduceLeDiff, Nat.reduceEqDiff, Nat.reduceLT, ↓reduceIte, List.length_cons, List.length_nil, List.set_cons_zero, List.set_cons_succ, Nat.le_refl, Nat.zero_le, Nat.zero_sub, Nat.sub_zero, List.nil_append, List.cons_append, Option.toList_some, Option.toList_none, eq_self, ↓cFx h1, hm.2.1.2.1.2.2.1, e, ic, c1, ↓cSe h1 c1, f6, st, n14, n0, n1, f10, f11, lF du, tr, bs]
      have m2 := hm.fai c1
      refine XZ.abs2 (P := fun M' => cR E B M0 M' A (uv v1 22 c (w [v1 22 c 0, v1 22 c 1, 0, v1 22 c 3, v1 22 c 4, v1 22 c 5, 3, v1 22 c 7, v1 22 c 8, v1 22 c 9, v1 22 c 10, v1 22 c 11, v1 22 c 12]))) (by rw [f10, f11]; exact h1.pw 22 c c1 _ rfl rfl) (fun M2 h2 => ?_)
      refine XZ.runH 60 [2] ?_
      simp only [n28, t28, ↓xh, ↓xst, ↓xrunE, ↓rG, rL, rSt, updA, List.elem_nil, List.elem_cons, Nat.reduceBEq, Bool.false_eq_true, if_false, if_true, true_and, and_true, true_or, or_true, not_false_eq_true, Nat.reduceAdd, Nat.reduceSub, Nat.reduceLeDiff, Nat.reduceEqDiff, Nat.reduceLT, ↓reduceIte, List.length_cons, List.length_nil, List.set_cons_zero, List.set_cons_succ, Nat.le_refl, Nat.zero_le, Nat.zero_sub, Nat.sub_zero, List.nil_append, List.cons_append, Option.toList_some, Option.toList_none, eq_self, nI_1]
      exact ih (c + 1) M2 _ _ _ (by omega) h2 m2 (fun M' v' h' m' k' => hq M' v' h' m' (kF.tr (kF.uv (by omega)) k'))
set_option maxRecDepth 100000 in
set_option maxHeartbeats 4000000 in
theorem mc28 (h : cR E B M0 M A v) (hm : cQ A v s) (hq : ∀ M' v', cR E B M0 M' A v' → cQ A v' (rAs (A 2 1) (A 2 3) 0 s) → kF v v' → Q none M' nx) : XC E 28 [.ref (A 0 0)] M nx Q := by
  refine XC.run 60 [2] ?_
  simp only [n28, t28, ↓xh, ↓xst, ↓xrunE, ↓rG, rL, rSt, updA, List.elem_nil, List.elem_cons, Nat.reduceBEq, Bool.false_eq_true, if_false, if_true, true_and, and_true, true_or, or_true, not_false_eq_true, Nat.reduceAdd, Nat.reduceSub, Nat.reduceLeDiff, Nat.reduceEqDiff, Nat.reduceLT, ↓reduceIte, List.length_cons, List.length_nil, List.set_cons_zero, List.set_cons_succ, Nat.le_refl, Nat.zero_le, Nat.zero_sub, Nat.sub_zero, List.nil_append, List.cons_append, Option.toList_some, Option.toList_none, eq_self]
  exact ml28 (A 2 3) 0 M v s _ (by omega) h hm hq
theorem rTa_1 (R : Nat) : ∀ l r s, (rTa R l r s).1 = s.1
  | 0, _, _ => rfl
  | l + 1, r, s => by
    rw [rTa, rTa_1 R l]
    split
    · rfl
    · exact rTs_1 r R 0 s
/-- kinds that a tick does not touch -/
def kT (v v' : cV) : Prop := ∀ kd, (1 ≤ kd ∧ kd ≤ 3) ∨ kd = 13 ∨ kd = 23 ∨ kd = 24 → v' kd = v kd
set_option maxRecDepth 100000 in
set_option maxHeartbeats 4000000 in
theorem mc12 {T : Nat} (h : cR E B M0 M A v) (hm : cQ A v s) (hT : T + 1 < 2 ^ 30) (eT' : s.1 21 = nI T) (hq : ∀ M' v', cR E B M0 M' A v' → cQ A v' (rTick s (A 2 1) (A 2 2) (A 2 3)) → kT v v' → v' 0 0 11 = v 0 0 11 → Q (some (.int (nI (rCpK (rT1 s) 48 0 0)))) M' nx) : XC E 12 [.ref (A 0 0)] M nx Q := by
  have hR := h.1.2.2.1
  have b0 : xb E ≤ A 0 0 := h.1.lo (kd := 0) (i := 0) ⟨rfl, by decide⟩
  have m1 := hm.now (g := w [v 0 0 0, v 0 0 1, v 0 0 2, 0, 0, 0, 0, v 0 0 7, 0, v 0 0 9, 0, v 0 0 11, 0, 0, v 0 0 14 + 1]) hT eT' ⟨rfl, rfl, rfl, rfl, rfl, by show v 0 0 14 + 1 = _; rw [hm.2.1.1.2.2.2]⟩
  refine XC.run 60 [10] ?_
  simp only [n12, t12, ↓xh, ↓xst, ↓xrunE, ↓rG, rL, rSt, updA, List.elem_nil, List.elem_cons, Nat.reduceBEq, Bool.false_eq_true, if_false, if_true, true_and, and_true, true_or, or_true, not_false_eq_true, Nat.reduceAdd, Nat.reduceSub, Nat.reduceLeDiff, Nat.reduceEqDiff, Nat.reduceLT, ↓reduceIte, List.length_cons, List.length_nil, List.set_cons_zero, List.set_cons_succ, Nat.le_refl, Nat.zero_le, Nat.zero_sub, Nat.sub_zero, List.nil_append, List.cons_append, Option.toList_some, Option.toList_none, eq_self, ↓cFx h, b0]
  refine XZ.abs2 (P := fun M' => cR E B M0 M' A (uv v 0 0 (w [v 0 0 0, v 0 0 1, v 0 0 2, 0, 0, 0, 0, v 0 0 7, 0, v 0 0 9, 0, v 0 0 11, 0, 0, v 0 0 14 + 1]))) (h.pw 0 0 ⟨rfl, by decide⟩ _ rfl rfl) (fun M1 h1 => ?_)
  have k1 : ∀ kd, kd ≠ 0 → uv v 0 0 (w [v 0 0 0, v 0 0 1, v 0 0 2, 0, 0, 0, 0, v 0 0 7, 0, v 0 0 9, 0, v 0 0 11, 0, 0, v 0 0 14 + 1]) kd = v kd := fun kd hk => uv_k hk
  have k11 : uv v 0 0 (w [v 0 0 0, v 0 0 1, v 0 0 2, 0, 0, 0, 0, v 0 0 7, 0, v 0 0 9, 0, v 0 0 11, 0, 0, v 0 0 14 + 1]) 0 0 11 = v 0 0 11 := by rw [uv_s]; rfl
  generalize (uv v 0 0 (w [v 0 0 0, v 0 0 1, v 0 0 2, 0, 0, 0, 0, v 0 0 7, 0, v 0 0 9, 0, v 0 0 11, 0, 0, v 0 0 14 + 1])) = v1 at h1 m1 k1 k11
  refine XZ.runH 60 [10] ?_
  simp only [n12, n38, t12, ↓xh, ↓xst, ↓xrunE, ↓rG, rL, rSt, updA, List.elem_nil, List.elem_cons, Nat.reduceBEq, Bool.false_eq_true, if_false, if_true, true_and, and_true, true_or, or_true, not_false_eq_true, Nat.reduceAdd, Nat.reduceSub, Nat.reduceLeDiff, Nat.reduceEqDiff, Nat.reduceLT, ↓reduceIte, List.length_cons, List.length_nil, List.set_cons_zero, List.set_cons_succ, Nat.le_refl, Nat.zero_le, Nat.zero_sub, Nat.sub_zero, List.nil_append, List.cons_append, Option.toList_some, Option.toList_none, eq_self, ↓cFx h1]
  refine mc38 h1 m1.1 (fun M2 v2 h2 t2 => ?_)
  rw [← rCpK_R m1.1.2.2.2 hR]
  have cp := m1.1.cp hR t2.1 t2.2
  have m2 : cQ A v2 (rT2 s) := m1.msh cp.1 (rY.cp _).1 (fun j hj => (rY.cp _).2 j (Or.inr hj)) rfl (fun kd hk => t2.1 kd (by omega) (by omega))
  have to2 : cTo A v2 (rT2 s) := cp.2
  have n2 : v2 0 0 14 = nI (T + 1) := by rw [m2.2.1.1.2.2.2, ← nI_1, ← eT']; rfl
  have e21 : (rT2 s).1 21 = nI (T + 1) := by rw [← nI_1, ← eT']; rfl
  have rest : ∀ M3 v3, cR E B M0 M3 A v3 → cQ A v3 (rT3 s) → cTo A v3 (rT3 s) → (∀ kd, kd ≠ 10 → v3 kd = v2 kd) → XZ E 12 (xZ E 12 Q) 34 [some (.ref (A 0 0)), some (.int (nI (rCpK (rT1 s) 48 0 0)))] [] M3 nx 0 0 := by
    intro M3 v3 h3 m3 to3 k3
    refine XZ.runH 60 [10] ?_
    simp only [n12, n40, t12, ↓xh, ↓xst, ↓xrunE, ↓rG, rL, rSt, updA, List.elem_nil, List.elem_cons, Nat.reduceBEq, Bool.false_eq_true, if_false, if_true, true_and, and_true, true_or, or_true, not_false_eq_true, Nat.reduceAdd, Nat.reduceSub, Nat.reduceLeDiff, Nat.reduceEqDiff, Nat.reduceLT, ↓reduceIte, List.length_cons, List.length_nil, List.set_cons_zero, List.set_cons_succ, Nat.le_refl, Nat.zero_le, Nat.zero_sub, Nat.sub_zero, List.nil_append, List.cons_append, Option.toList_some, Option.toList_none, eq_self, ↓cFx h3]
    refine mc40 h3 m3.1 to3 (fun M4 v4 h4 t4 => ?_)
    have m4 : cQ A v4 (rTa (A 2 1) (A 2 1) 0 (rT3 s)) := m3.msh t4.1 t4.2.2.2.1 (fun j hj => t4.2.2.2.2 j (Or.inr hj)) (by rw [rTa_1]) (fun kd hk => t4.2.2.1 kd (by omega))
    refine XZ.runH 60 [10] ?_
    simp only [n12, n41, t12, ↓xh, ↓xst, ↓xrunE, ↓rG, rL, rSt, updA, List.elem_nil, List.elem_cons, Nat.reduceBEq, Bool.false_eq_true, if_false, if_true, true_and, and_true, true_or, or_true, not_false_eq_true, Nat.reduceAdd, Nat.reduceSub, Nat.reduceLeDiff, Nat.reduceEqDiff, Nat.reduceLT, ↓reduceIte, List.length_cons, List.length_nil, List.set_cons_zero, List.set_cons_succ, Nat.le_refl, Nat.zero_le, Nat.zero_sub, Nat.sub_zero, List.nil_append, List.cons_append, Option.toList_some, Option.toList_none, eq_self, ↓cFx h4]
    refine mc41 h4 m4.1 (fun M5 v5 h5 c5 k5 => ?_)
    have m5 : cQ A v5 (rZones (rTa (A 2 1) (A 2 1) 0 (rT3 s))) := m4.msh c5 (rY.zn _).1 (fun j hj => (rY.zn _).2 j (Or.inr hj)) rfl (fun kd hk => k5 kd (by omega))
    refine XZ.runH 60 [10] ?_
    simp only [n12, n26, t12, ↓xh, ↓xst, ↓xrunE, ↓rG, rL, rSt, updA, List.elem_nil, List.elem_cons, Nat.reduceBEq, Bool.false_eq_true, if_false, if_true, true_and, and_true, true_or, or_true, not_false_eq_true, Nat.reduceAdd, Nat.reduceSub, Nat.reduceLeDiff, Nat.reduceEqDiff, Nat.reduceLT, ↓reduceIte, List.length_cons, List.length_nil, List.set_cons_zero, List.set_cons_succ, Nat.le_refl, Nat.zero_le, Nat.zero_sub, Nat.sub_zero, List.nil_append, List.cons_append, Option.toList_some, Option.toList_none, eq_self, ↓cFx h5]
    refine mc26 h5 m5 (fun M6 v6 h6 m6 k6 => ?_)
    refine XZ.runH 60 [10] ?_
    simp only [n12, n27, t12, ↓xh, ↓xst, ↓xrunE, ↓rG, rL, rSt, updA, List.elem_nil, List.elem_cons, Nat.reduceBEq, Bool.false_eq_true, if_false, if_true, true_and, and_true, true_or, or_true, not_false_eq_true, Nat.reduceAdd, Nat.reduceSub, Nat.reduceLeDiff, Nat.reduceEqDiff, Nat.reduceLT, ↓reduceIte, List.length_cons, List.length_nil, List.set_cons_zero, List.set_cons_succ, Nat.le_refl, Nat.zero_le, Nat.zero_sub, Nat.sub_zero, List.nil_append, List.cons_append, Option.toList_some, Option.toList_none, eq_self, ↓cFx h6]
    refine mc27 h6 m6 (fun M7 v7 h7 m7 k7 => ?_)
    refine XZ.runH 60 [10] ?_
    simp only [n12, n28, t12, ↓xh, ↓xst, ↓xrunE, ↓rG, rL, rSt, updA, List.elem_nil, List.elem_cons, Nat.reduceBEq, Bool.false_eq_true, if_false, if_true, true_and, and_true, true_or, or_true, not_false_eq_true, Nat.reduceAdd, Nat.reduceSub, Nat.reduceLeDiff, Nat.reduceEqDiff, Nat.reduceLT, ↓reduceIte, List.length_cons, List.length_nil, List.set_cons_zero, List.set_cons_succ, Nat.le_refl, Nat.zero_le, Nat.zero_sub, Nat.sub_zero, List.nil_append, List.cons_append, Option.toList_some, Option.toList_none, eq_self, ↓cFx h7]
    refine mc28 h7 m7 (fun M8 v8 h8 m8 k8 => ?_)
    refine XZ.runH 60 [] ?_
    simp only [n12, t12, ↓xh, ↓xst, ↓xrunE, ↓rG, rL, rSt, updA, List.elem_nil, List.elem_cons, Nat.reduceBEq, Bool.false_eq_true, if_false, if_true, true_and, and_true, true_or, or_true, not_false_eq_true, Nat.reduceAdd, Nat.reduceSub, Nat.reduceLeDiff, Nat.reduceEqDiff, Nat.reduceLT, ↓reduceIte, List.length_cons, List.length_nil, List.set_cons_zero, List.set_cons_succ, Nat.le_refl, Nat.zero_le, Nat.zero_sub, Nat.sub_zero, List.nil_append, List.cons_append, Option.toList_some, Option.toList_none, eq_self]
    have kk : kF v5 v8 := (k6.tr k7).tr k8
    have big : ∀ kd, kd ≠ 9 → kd ≠ 10 → kd ≠ 11 → kd ≠ 17 → kd ≠ 18 → kd ≠ 19 → kd ≠ 20 → kd ≠ 22 → v8 kd = v1 kd := fun kd a1 a2 a3 a4 a5 a6 a7 a8 => (kk kd a1 a3 a6 a7 a8).trans ((k5 kd a2).trans ((t4.2.2.1 kd a2).trans ((k3 kd a2).trans (t2.1 kd a4 a5))))
    refine hq M8 v8 h8 m8 (fun kd hk => (big kd (by omega) (by omega) (by omega) (by omega) (by omega) (by omega) (by omega) (by omega)).trans (k1 kd (by omega))) ?_
    rw [big 0 (by decide) (by decide) (by decide) (by decide) (by decide) (by decide) (by decide) (by decide)]
    exact k11
  refine XZ.runH 60 [10, 34] ?_
  by_cases ev : (T + 1) % 2 = 0
  · have c1 : nI (T + 1) - nI (T + 1) / 2 * 2 = 0 := by rw [nI_rem2 (by omega), ev]; rfl
    have c2 : (rT2 s).1 21 &&& 1 = 0 := by rw [e21, nI_and1, ev]; rfl
    simp only [n12, n39, t12, ↓xh, ↓xst, ↓xrunE, ↓rG, rL, rSt, updA, List.elem_nil, List.elem_cons, Nat.reduceBEq, Bool.false_eq_true, if_false, if_true, true_and, and_true, true_or, or_true, not_false_eq_true, Nat.reduceAdd, Nat.reduceSub, Nat.reduceLeDiff, Nat.reduceEqDiff, Nat.reduceLT, ↓reduceIte, List.length_cons, List.length_nil, List.set_cons_zero, List.set_cons_succ, Nat.le_refl, Nat.zero_le, Nat.zero_sub, Nat.sub_zero, List.nil_append, List.cons_append, Option.toList_some, Option.toList_none, eq_self, ↓cFx h2, n2, show ¬ (2 : Int32) = 0 by decide, c1]
    refine mc39 h2 m2.1 (fun M3 v3 h3 t3 => ?_)
    have e3 : rT3 s = rPt (rAgeF (rT2 s)) (rT2 s) 0 48 := by unfold rT3; rw [if_pos c2]
    have a3 : cM A v3 (rPt (rAgeF (rT2 s)) (rT2 s) 0 48) := m2.1.age hR t3.1 (fun r n hr hn => by
      rw [t3.2 r n hr hn]
      by_cases y : n < A 2 0
      · rw [if_pos y, if_pos ⟨by omega, y⟩]
      · rw [if_neg y, if_neg (fun z => y z.2)])
    refine rest M3 v3 h3 ?_ ?_ t3.1
    · rw [e3]
      exact m2.msh a3 (rY.age _).1 (fun j hj => (rY.age _).2 j (Or.inr hj)) rfl (fun kd hk => t3.1 kd (by omega))
    · rw [e3]
      exact to2.age t3.1
  · have c1 : ¬ nI (T + 1) - nI (T + 1) / 2 * 2 = 0 := by
      rw [nI_rem2 (by omega)]
      exact fun z => ev (nI_inj (b := 0) (by omega) (by omega) z)
    have c2 : ¬ (rT2 s).1 21 &&& 1 = 0 := by
      rw [e21, nI_and1]
      exact fun z => ev (nI_inj (b := 0) (by omega) (by omega) z)
    have e3 : rT3 s = rT2 s := by unfold rT3; rw [if_neg c2]
    simp only [n12, t12, ↓xh, ↓xst, ↓xrunE, ↓rG, rL, rSt, updA, List.elem_nil, List.elem_cons, Nat.reduceBEq, Bool.false_eq_true, if_false, if_true, true_and, and_true, true_or, or_true, not_false_eq_true, Nat.reduceAdd, Nat.reduceSub, Nat.reduceLeDiff, Nat.reduceEqDiff, Nat.reduceLT, ↓reduceIte, List.length_cons, List.length_nil, List.set_cons_zero, List.set_cons_succ, Nat.le_refl, Nat.zero_le, Nat.zero_sub, Nat.sub_zero, List.nil_append, List.cons_append, Option.toList_some, Option.toList_none, eq_self, ↓cFx h2, n2, show ¬ (2 : Int32) = 0 by decide, c1]
    refine rest M2 v2 h2 ?_ ?_ (fun _ _ => rfl)
    · rw [e3]; exact m2
    · rw [e3]; exact to2
end TIK
