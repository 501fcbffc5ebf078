/-- the release: entries of service i, e are left -/
def rRe (i : Nat) : Nat → rS → rS
  | 0, s => s
  | e + 1, s => rRe i e (if nI e < s.2 20 i ∧ ¬ s.1 21 - s.2 24 (8 * i + e) < s.1 2 then rStk s i e ((s.2 20 i).toNatClampNeg - 1) else s)
def rRl : Nat → Nat → rS → rS
  | 0, _, s => s
  | l + 1, i, s => rRl l (i + 1) (rRe i 8 s)
def rSs (R : Nat) : Nat → Nat → rS → rS
  | 0, _, s => s
  | l + 1, c, s => rSs R l (c + 1) (rSil s R c)
/-- a session's turn -/
def rAl (s : rS) (R c : Nat) : rS := if s.2 31 c = 1 ∧ ¬ s.1 21 - s.2 36 c < s.1 0 then (if ¬ s.2 35 c < s.1 1 then (s.1, up2 s.2 31 c 3) else rAtt s R c) else s
def rAs (R : Nat) : Nat → Nat → rS → rS
  | 0, _, s => s
  | l + 1, c, s => rAs R l (c + 1) (rAl s R c)
theorem rW.al {s : rS} {R S X c : Nat} (h : rV s R S X) (hc : c < X) : rW s (rAl s R c) := by
  rw [rAl]
  split
  · split
    · exact (rW.rf s).up 31 _ _ (by decide)
    · obtain ⟨_, _, _, ⟨_, A, i, B, _, _, _, hi, _, _, _, ei, _⟩, hl, _⟩ := h.k hc
      exact (rW.rf s).att R c (by rw [ei]; exact hl i hi)
  · exact rW.rf s
theorem rW.re {i : Nat} (hi : i < 16) : ∀ e s, (∀ i, i < 16 → ∃ L, L ≤ 8 ∧ s.2 20 i = nI L) → rW s (rRe i e s)
  | 0, s, _ => rW.rf s
  | e + 1, s, hl => by
    rw [rRe]
    obtain ⟨L, hL, eL⟩ := hl i hi
    have g : rW s (if nI e < s.2 20 i ∧ ¬ s.1 21 - s.2 24 (8 * i + e) < s.1 2 then rStk s i e ((s.2 20 i).toNatClampNeg - 1) else s) := by
      split
      · refine (rW.rf s).stk i e _ ?_
        rw [eL, nI_clamp (by omega)]; omega
      · exact rW.rf s
    exact g.tr (rW.re hi e _ (g.2.2 hl))
def rT1 (s : rS) : rS := (upd s.1 21 (s.1 21 + 1), s.2)
def rT2 (s : rS) : rS := rPt (rCpF (rT1 s)) (rT1 s) 0 48
def rT3 (s : rS) : rS := if (rT2 s).1 21 &&& 1 = 0 then rPt (rAgeF (rT2 s)) (rT2 s) 0 48 else rT2 s
def rTick (s : rS) (R S X : Nat) : rS := rAs R X 0 (rSs R X 0 (rRl S 0 (rZones (rTa R R 0 (rT3 s)))))
theorem nI_dec (e : Nat) (h : e < 64) : nI (e + 1) + -1 = nI e := by
  revert e; decide +kernel
set_option maxRecDepth 100000 in
set_option maxHeartbeats 4000000 in
theorem rld89 {E : xE} {M0 : xM} {m nx R S X : Nat} {v : Int32} {s' : rS} {Q : Option Value → xM → Nat → Prop} (hb : xb E ≤ m) (hq : ∀ M', rR M0 M' m s' → Q (some (.int v)) M' nx) : ∀ l c s M l3, c + l = X → rV s R S X → rAs R l c s = s' → rR M0 M m s →
    XZ E 89 (xZ E 89 Q) 153 [some (.ref m), some (.int v), some (.int (nI c)), l3] [] M nx 0 0 := by
  intro l
  induction l with
  | zero =>
    intro c s M l3 hc hv hs h
    have hX := hv.2.2.1
    obtain rfl : c = X := by omega
    refine XZ.runH 60 [153] ?_
    simp only [n89, t89, ↓xh, ↓xst, ↓xrunE, ↓rG, rL, rSt, updA, List.elem_nil, List.elem_cons, Nat.reduceBEq, Bool.false_eq_true, if_false, if_true, true_and, and_true, true_or, or_true, not_false_eq_true, Nat.reduceAdd, Nat.reduceSub, Nat.reduceLeDiff, Nat.reduceEqDiff, Nat.reduceLT, ↓reduceIte, List.length_cons, List.length_nil, List.set_cons_zero, List.set_cons_succ, Nat.le_refl, Nat.zero_le, Nat.zero_sub, Nat.sub_zero, List.nil_append, List.cons_append, Option.toList_some, Option.toList_none, eq_self, ↓rO1 h.1, hX.2, nI_le (Nat.le_refl c) (show c < 2 ^ 31 by omega)]
    exact hq M (h.to hs)
  | succ l ih =>
    intro c s M l3 hc hv hs h
    have hX := hv.2.2.1
    have ic := nIx (show c < 12 by omega)
    have g := nI_ge (show c < X by omega) (show X < 2 ^ 31 by omega)
    rw [rAs] at hs
    have hv' := hv.w (rW.al hv (show c < X by omega))
    have step : ∀ M1, rR M0 M1 m (rAl s R c) → XZ E 89 (xZ E 89 Q) 217 [some (.ref m), some (.int v), some (.int (nI c)), l3] [] M1 nx 0 0 := by
      intro M1 h1
      refine XZ.runH 60 [153] ?_
      simp only [n89, t89, ↓xh, ↓xst, ↓xrunE, ↓rG, rL, rSt, updA, List.elem_nil, List.elem_cons, Nat.reduceBEq, Bool.false_eq_true, if_false, if_true, true_and, and_true, true_or, or_true, not_false_eq_true, Nat.reduceAdd, Nat.reduceSub, Nat.reduceLeDiff, Nat.reduceEqDiff, Nat.reduceLT, ↓reduceIte, List.length_cons, List.length_nil, List.set_cons_zero, List.set_cons_succ, Nat.le_refl, Nat.zero_le, Nat.zero_sub, Nat.sub_zero, List.nil_append, List.cons_append, Option.toList_some, Option.toList_none, eq_self, nI_1]
      exact ih (c + 1) _ M1 l3 (by omega) hv' hs h1
    refine XZ.runH 60 [10, 209, 217] ?_
    by_cases c1 : s.2 31 c = 1
    · by_cases c2 : s.1 21 - s.2 36 c < s.1 0
      · simp only [n89, t89, ↓xh, ↓xst, ↓xrunE, ↓rG, rL, rSt, updA, List.elem_nil, List.elem_cons, Nat.reduceBEq, Bool.false_eq_true, if_false, if_true, true_and, and_true, true_or, or_true, not_false_eq_true, Nat.reduceAdd, Nat.reduceSub, Nat.reduceLeDiff, Nat.reduceEqDiff, Nat.reduceLT, ↓reduceIte, List.length_cons, List.length_nil, List.set_cons_zero, List.set_cons_succ, Nat.le_refl, Nat.zero_le, Nat.zero_sub, Nat.sub_zero, List.nil_append, List.cons_append, Option.toList_some, Option.toList_none, eq_self, ↓rO1 h.1, ↓rB h.1, hX.2, g, ic, c1, c2]
        exact step M (h.to (by rw [rAl, if_neg (by simp [c2])]))
      · by_cases c3 : s.2 35 c < s.1 1
        · simp only [n89, n112, t89, ↓xh, ↓xst, ↓xrunE, ↓rG, rL, rSt, updA, List.elem_nil, List.elem_cons, Nat.reduceBEq, Bool.false_eq_true, if_false, if_true, true_and, and_true, true_or, or_true, not_false_eq_true, Nat.reduceAdd, Nat.reduceSub, Nat.reduceLeDiff, Nat.reduceEqDiff, Nat.reduceLT, ↓reduceIte, List.length_cons, List.length_nil, List.set_cons_zero, List.set_cons_succ, Nat.le_refl, Nat.zero_le, Nat.zero_sub, Nat.sub_zero, List.nil_append, List.cons_append, Option.toList_some, Option.toList_none, eq_self, ↓rO1 h.1, ↓rB h.1, hX.2, g, ic, c1, c2, c3]
          refine rc112 hb h (hv.k (by omega)) (fun M1 h1 => ?_)
          refine XZ.runH 60 [153] ?_
          simp only [n89, t89, ↓xh, ↓xst, ↓xrunE, ↓rG, rL, rSt, updA, List.elem_nil, List.elem_cons, Nat.reduceBEq, Bool.false_eq_true, if_false, if_true, true_and, and_true, true_or, or_true, not_false_eq_true, Nat.reduceAdd, Nat.reduceSub, Nat.reduceLeDiff, Nat.reduceEqDiff, Nat.reduceLT, ↓reduceIte, List.length_cons, List.length_nil, List.set_cons_zero, List.set_cons_succ, Nat.le_refl, Nat.zero_le, Nat.zero_sub, Nat.sub_zero, List.nil_append, List.cons_append, Option.toList_some, Option.toList_none, eq_self, nI_1]
          exact ih (c + 1) _ M1 l3 (by omega) hv' hs (h1.to (by rw [rAl, if_pos ⟨c1, c2⟩, if_neg (by simp [c3])]))
        · simp only [n89, t89, ↓xh, ↓xst, ↓xrunE, ↓rG, rL, rSt, updA, List.elem_nil, List.elem_cons, Nat.reduceBEq, Bool.false_eq_true, if_false, if_true, true_and, and_true, true_or, or_true, not_false_eq_true, Nat.reduceAdd, Nat.reduceSub, Nat.reduceLeDiff, Nat.reduceEqDiff, Nat.reduceLT, ↓reduceIte, List.length_cons, List.length_nil, List.set_cons_zero, List.set_cons_succ, Nat.le_refl, Nat.zero_le, Nat.zero_sub, Nat.sub_zero, List.nil_append, List.cons_append, Option.toList_some, Option.toList_none, eq_self, ↓rO1 h.1, ↓rB h.1, hX.2, g, ic, c1, c2, c3, xn0, xbj hb]
          refine XZ.abs (h.arr 31 _ _ (by decide) (by decide)) (fun M1 h1 => ?_)
          refine XZ.runH 60 [217] ?_
          simp only [n89, t89, ↓xh, ↓xst, ↓xrunE, ↓rG, rL, rSt, updA, List.elem_nil, List.elem_cons, Nat.reduceBEq, Bool.false_eq_true, if_false, if_true, true_and, and_true, true_or, or_true, not_false_eq_true, Nat.reduceAdd, Nat.reduceSub, Nat.reduceLeDiff, Nat.reduceEqDiff, Nat.reduceLT, ↓reduceIte, List.length_cons, List.length_nil, List.set_cons_zero, List.set_cons_succ, Nat.le_refl, Nat.zero_le, Nat.zero_sub, Nat.sub_zero, List.nil_append, List.cons_append, Option.toList_some, Option.toList_none, eq_self]
          exact step M1 (h1.to (by rw [rAl, if_pos ⟨c1, c2⟩, if_pos c3]))
    · simp only [n89, t89, ↓xh, ↓xst, ↓xrunE, ↓rG, rL, rSt, updA, List.elem_nil, List.elem_cons, Nat.reduceBEq, Bool.false_eq_true, if_false, if_true, true_and, and_true, true_or, or_true, not_false_eq_true, Nat.reduceAdd, Nat.reduceSub, Nat.reduceLeDiff, Nat.reduceEqDiff, Nat.reduceLT, ↓reduceIte, List.length_cons, List.length_nil, List.set_cons_zero, List.set_cons_succ, Nat.le_refl, Nat.zero_le, Nat.zero_sub, Nat.sub_zero, List.nil_append, List.cons_append, Option.toList_some, Option.toList_none, eq_self, ↓rO1 h.1, ↓rB h.1, hX.2, g, ic, c1]
      exact step M (h.to (by rw [rAl, if_neg (by simp [c1])]))
set_option maxRecDepth 100000 in
set_option maxHeartbeats 4000000 in
theorem rlc89 {E : xE} {M0 : xM} {m nx R S X : Nat} {v : Int32} {s' : rS} {Q : Option Value → xM → Nat → Prop} (hb : xb E ≤ m) (hq : ∀ M', rR M0 M' m s' → Q (some (.int v)) M' nx) : ∀ l c s M l3, c + l = X → rV s R S X → rAs R X 0 (rSs R l c s) = s' → rR M0 M m s →
    XZ E 89 (xZ E 89 Q) 132 [some (.ref m), some (.int v), some (.int (nI c)), l3] [] M nx 0 0 := by
  intro l
  induction l with
  | zero =>
    intro c s M l3 hc hv hs h
    have hX := hv.2.2.1
    obtain rfl : c = X := by omega
    refine XZ.runH 60 [132, 153] ?_
    simp only [n89, t89, ↓xh, ↓xst, ↓xrunE, ↓rG, rL, rSt, updA, List.elem_nil, List.elem_cons, Nat.reduceBEq, Bool.false_eq_true, if_false, if_true, true_and, and_true, true_or, or_true, not_false_eq_true, Nat.reduceAdd, Nat.reduceSub, Nat.reduceLeDiff, Nat.reduceEqDiff, Nat.reduceLT, ↓reduceIte, List.length_cons, List.length_nil, List.set_cons_zero, List.set_cons_succ, Nat.le_refl, Nat.zero_le, Nat.zero_sub, Nat.sub_zero, List.nil_append, List.cons_append, Option.toList_some, Option.toList_none, eq_self, ↓rO1 h.1, hX.2, nI_le (Nat.le_refl c) (show c < 2 ^ 31 by omega)]
    exact rld89 hb hq c 0 s M l3 (by omega) hv hs h
  | succ l ih =>
    intro c s M l3 hc hv hs h
    have hX := hv.2.2.1
    have g := nI_ge (show c < X by omega) (show X < 2 ^ 31 by omega)
    rw [rSs] at hs
    refine XZ.runH 60 [132, 153] ?_
    simp only [n89, n111, t89, ↓xh, ↓xst, ↓xrunE, ↓rG, rL, rSt, updA, List.elem_nil, List.elem_cons, Nat.reduceBEq, Bool.false_eq_true, if_false, if_true, true_and, and_true, true_or, or_true, not_false_eq_true, Nat.reduceAdd, Nat.reduceSub, Nat.reduceLeDiff, Nat.reduceEqDiff, Nat.reduceLT, ↓reduceIte, List.length_cons, List.length_nil, List.set_cons_zero, List.set_cons_succ, Nat.le_refl, Nat.zero_le, Nat.zero_sub, Nat.sub_zero, List.nil_append, List.cons_append, Option.toList_some, Option.toList_none, eq_self, ↓rO1 h.1, hX.2, g]
    refine rc111 hb h hv.1.1 hv.1.2 (fun k hk => (hv.2.2.2.1 k hk).1) (hv.2.2.2.2.2 c (by omega)).1 (fun M1 h1 => ?_)
    refine XZ.runH 60 [132] ?_
    simp only [n89, t89, ↓xh, ↓xst, ↓xrunE, ↓rG, rL, rSt, updA, List.elem_nil, List.elem_cons, Nat.reduceBEq, Bool.false_eq_true, if_false, if_true, true_and, and_true, true_or, or_true, not_false_eq_true, Nat.reduceAdd, Nat.reduceSub, Nat.reduceLeDiff, Nat.reduceEqDiff, Nat.reduceLT, ↓reduceIte, List.length_cons, List.length_nil, List.set_cons_zero, List.set_cons_succ, Nat.le_refl, Nat.zero_le, Nat.zero_sub, Nat.sub_zero, List.nil_append, List.cons_append, Option.toList_some, Option.toList_none, eq_self, nI_1]
    exact ih (c + 1) _ M1 l3 (by omega) (hv.w ((rW.rf s).sil R c)) hs h1
set_option maxRecDepth 100000 in
set_option maxHeartbeats 4000000 in
theorem rlb89 {E : xE} {M0 : xM} {m nx R S X i : Nat} {v : Int32} {Q : Option Value → xM → Nat → Prop} (hb : xb E ≤ m) (hi : i < 16) (s' : rS) (kk : ∀ M' l3, rR M0 M' m s' → XZ E 89 (xZ E 89 Q) 124 [some (.ref m), some (.int v), some (.int (nI i)), l3] [] M' nx 0 0) : ∀ n s M, n ≤ 8 → rV s R S X → rRe i n s = s' → rR M0 M m s →
    XZ E 89 (xZ E 89 Q) 75 [some (.ref m), some (.int v), some (.int (nI i)), some (.int (nI n + -1))] [] M nx 0 0 := by
  have ii := nIx hi
  intro n
  induction n with
  | zero =>
    intro s M hn hv hs h
    refine XZ.runH 60 [75, 124] ?_
    simp only [n89, t89, ↓xh, ↓xst, ↓xrunE, ↓rG, rL, rSt, updA, List.elem_nil, List.elem_cons, Nat.reduceBEq, Bool.false_eq_true, if_false, if_true, true_and, and_true, true_or, or_true, not_false_eq_true, Nat.reduceAdd, Nat.reduceSub, Nat.reduceLeDiff, Nat.reduceEqDiff, Nat.reduceLT, ↓reduceIte, List.length_cons, List.length_nil, List.set_cons_zero, List.set_cons_succ, Nat.le_refl, Nat.zero_le, Nat.zero_sub, Nat.sub_zero, List.nil_append, List.cons_append, Option.toList_some, Option.toList_none, eq_self, show nI 0 + -1 < 0 by decide]
    exact kk M _ (h.to hs)
  | succ e ih =>
    intro s M hn hv hs h
    obtain ⟨L, hL, eL⟩ := hv.2.2.2.2.1 i hi
    have ie := nIx (show 8 * i + e < 128 by omega)
    have hv' := hv.w (rW.re hi 1 s hv.2.2.2.2.1)
    rw [rRe] at hs
    have p0 : ¬ nI e < 0 := nI_pos (by omega)
    have step : ∀ M1 s1, rV s1 R S X → rRe i e s1 = s' → rR M0 M1 m s1 → XZ E 89 (xZ E 89 Q) 118 [some (.ref m), some (.int v), some (.int (nI i)), some (.int (nI e))] [] M1 nx 0 0 := by
      intro M1 s1 v1 e1 h1
      refine XZ.runH 60 [75] ?_
      simp only [n89, t89, ↓xh, ↓xst, ↓xrunE, ↓rG, rL, rSt, updA, List.elem_nil, List.elem_cons, Nat.reduceBEq, Bool.false_eq_true, if_false, if_true, true_and, and_true, true_or, or_true, not_false_eq_true, Nat.reduceAdd, Nat.reduceSub, Nat.reduceLeDiff, Nat.reduceEqDiff, Nat.reduceLT, ↓reduceIte, List.length_cons, List.length_nil, List.set_cons_zero, List.set_cons_succ, Nat.le_refl, Nat.zero_le, Nat.zero_sub, Nat.sub_zero, List.nil_append, List.cons_append, Option.toList_some, Option.toList_none, eq_self]
      exact ih s1 M1 (by omega) v1 e1 h1
    rw [nI_dec e (by omega)]
    refine XZ.runH 60 [75, 118, 124] ?_
    by_cases c1 : nI e < s.2 20 i
    · by_cases c2 : s.1 21 - s.2 24 (8 * i + e) < s.1 2
      · rw [if_neg (by simp [c2])] at hs
        simp only [n89, t89, ↓xh, ↓xst, ↓xrunE, ↓rG, rL, rSt, updA, List.elem_nil, List.elem_cons, Nat.reduceBEq, Bool.false_eq_true, if_false, if_true, true_and, and_true, true_or, or_true, not_false_eq_true, Nat.reduceAdd, Nat.reduceSub, Nat.reduceLeDiff, Nat.reduceEqDiff, Nat.reduceLT, ↓reduceIte, List.length_cons, List.length_nil, List.set_cons_zero, List.set_cons_succ, Nat.le_refl, Nat.zero_le, Nat.zero_sub, Nat.sub_zero, List.nil_append, List.cons_append, Option.toList_some, Option.toList_none, eq_self, ↓rO1 h.1, ↓rB h.1, p0, ii, lT c1, nIm8, nI_add, ie, c2]
        exact step M s hv hs h
      · rw [if_pos ⟨c1, c2⟩] at hs
        have L0 : 0 < L := Nat.pos_of_ne_zero fun z => by rw [eL, z] at c1; exact p0 c1
        obtain ⟨K, rfl⟩ : ∃ K, L = K + 1 := ⟨L - 1, by omega⟩
        rw [eL, nI_clamp (by omega), Nat.add_sub_cancel] at hs
        simp only [n89, n110, t89, ↓xh, ↓xst, ↓xrunE, ↓rG, rL, rSt, updA, List.elem_nil, List.elem_cons, Nat.reduceBEq, Bool.false_eq_true, if_false, if_true, true_and, and_true, true_or, or_true, not_false_eq_true, Nat.reduceAdd, Nat.reduceSub, Nat.reduceLeDiff, Nat.reduceEqDiff, Nat.reduceLT, ↓reduceIte, List.length_cons, List.length_nil, List.set_cons_zero, List.set_cons_succ, Nat.le_refl, Nat.zero_le, Nat.zero_sub, Nat.sub_zero, List.nil_append, List.cons_append, Option.toList_some, Option.toList_none, eq_self, ↓rO1 h.1, ↓rB h.1, p0, ii, lT c1, nIm8, nI_add, ie, c2]
        refine rc110 (L := K) hb h hi (by omega) (by omega) eL (fun M1 h1 => ?_)
        refine XZ.runH 60 [75] ?_
        simp only [n89, t89, ↓xh, ↓xst, ↓xrunE, ↓rG, rL, rSt, updA, List.elem_nil, List.elem_cons, Nat.reduceBEq, Bool.false_eq_true, if_false, if_true, true_and, and_true, true_or, or_true, not_false_eq_true, Nat.reduceAdd, Nat.reduceSub, Nat.reduceLeDiff, Nat.reduceEqDiff, Nat.reduceLT, ↓reduceIte, List.length_cons, List.length_nil, List.set_cons_zero, List.set_cons_succ, Nat.le_refl, Nat.zero_le, Nat.zero_sub, Nat.sub_zero, List.nil_append, List.cons_append, Option.toList_some, Option.toList_none, eq_self]
        exact ih _ M1 (by omega) (hv.w ((rW.rf s).stk i e K (by omega))) hs h1
    · rw [if_neg (by simp [c1])] at hs
      simp only [n89, t89, ↓xh, ↓xst, ↓xrunE, ↓rG, rL, rSt, updA, List.elem_nil, List.elem_cons, Nat.reduceBEq, Bool.false_eq_true, if_false, if_true, true_and, and_true, true_or, or_true, not_false_eq_true, Nat.reduceAdd, Nat.reduceSub, Nat.reduceLeDiff, Nat.reduceEqDiff, Nat.reduceLT, ↓reduceIte, List.length_cons, List.length_nil, List.set_cons_zero, List.set_cons_succ, Nat.le_refl, Nat.zero_le, Nat.zero_sub, Nat.sub_zero, List.nil_append, List.cons_append, Option.toList_some, Option.toList_none, eq_self, ↓rO1 h.1, ↓rB h.1, p0, ii, lF c1]
      exact step M s hv hs h
theorem rRe_w {i n R S X : Nat} {s : rS} (hi : i < 16) (h : rV s R S X) : rV (rRe i n s) R S X := h.w (rW.re hi n s h.2.2.2.2.1)
set_option maxRecDepth 100000 in
set_option maxHeartbeats 4000000 in
theorem rla89 {E : xE} {M0 : xM} {m nx R S X : Nat} {v : Int32} {s' : rS} {Q : Option Value → xM → Nat → Prop} (hb : xb E ≤ m) (hq : ∀ M', rR M0 M' m s' → Q (some (.int v)) M' nx) : ∀ l i s M l3, i + l = S → rV s R S X → rAs R X 0 (rSs R X 0 (rRl l i s)) = s' → rR M0 M m s →
    XZ E 89 (xZ E 89 Q) 64 [some (.ref m), some (.int v), some (.int (nI i)), l3] [] M nx 0 0 := by
  intro l
  induction l with
  | zero =>
    intro i s M l3 hi hv hs h
    have hS := hv.2.1
    obtain rfl : i = S := by omega
    refine XZ.runH 60 [64, 132] ?_
    simp only [n89, t89, ↓xh, ↓xst, ↓xrunE, ↓rG, rL, rSt, updA, List.elem_nil, List.elem_cons, Nat.reduceBEq, Bool.false_eq_true, if_false, if_true, true_and, and_true, true_or, or_true, not_false_eq_true, Nat.reduceAdd, Nat.reduceSub, Nat.reduceLeDiff, Nat.reduceEqDiff, Nat.reduceLT, ↓reduceIte, List.length_cons, List.length_nil, List.set_cons_zero, List.set_cons_succ, Nat.le_refl, Nat.zero_le, Nat.zero_sub, Nat.sub_zero, List.nil_append, List.cons_append, Option.toList_some, Option.toList_none, eq_self, ↓rO1 h.1, hS.2, nI_le (Nat.le_refl i) (show i < 2 ^ 31 by omega)]
    exact rlc89 hb hq X 0 s M l3 (by omega) hv hs h
  | succ l ih =>
    intro i s M l3 hi hv hs h
    have hS := hv.2.1
    rw [rRl] at hs
    refine XZ.runH 60 [64, 75] ?_
    simp only [n89, t89, ↓xh, ↓xst, ↓xrunE, ↓rG, rL, rSt, updA, List.elem_nil, List.elem_cons, Nat.reduceBEq, Bool.false_eq_true, if_false, if_true, true_and, and_true, true_or, or_true, not_false_eq_true, Nat.reduceAdd, Nat.reduceSub, Nat.reduceLeDiff, Nat.reduceEqDiff, Nat.reduceLT, ↓reduceIte, List.length_cons, List.length_nil, List.set_cons_zero, List.set_cons_succ, Nat.le_refl, Nat.zero_le, Nat.zero_sub, Nat.sub_zero, List.nil_append, List.cons_append, Option.toList_some, Option.toList_none, eq_self, ↓rO1 h.1, hS.2, nI_ge (show i < S by omega) (show S < 2 ^ 31 by omega)]
    have e7 : (7 : Int32) = nI 8 + -1 := by decide
    rw [e7]
    refine rlb89 hb (by omega) _ (fun M1 l3 h1 => ?_) 8 s M (by omega) hv rfl h
    refine XZ.runH 60 [64] ?_
    simp only [n89, t89, ↓xh, ↓xst, ↓xrunE, ↓rG, rL, rSt, updA, List.elem_nil, List.elem_cons, Nat.reduceBEq, Bool.false_eq_true, if_false, if_true, true_and, and_true, true_or, or_true, not_false_eq_true, Nat.reduceAdd, Nat.reduceSub, Nat.reduceLeDiff, Nat.reduceEqDiff, Nat.reduceLT, ↓reduceIte, List.length_cons, List.length_nil, List.set_cons_zero, List.set_cons_succ, Nat.le_refl, Nat.zero_le, Nat.zero_sub, Nat.sub_zero, List.nil_append, List.cons_append, Option.toList_some, Option.toList_none, eq_self, nI_1]
    exact ih (i + 1) _ M1 _ (by omega) (rRe_w (by omega) hv) hs h1
set_option maxRecDepth 100000 in
set_option maxHeartbeats 4000000 in
theorem rl89 {E : xE} {M0 : xM} {m nx R S X : Nat} {v : Int32} {s' : rS} {Q : Option Value → xM → Nat → Prop} (hb : xb E ≤ m) (hq : ∀ M', rR M0 M' m s' → Q (some (.int v)) M' nx) : ∀ l r s M l3, r + l = R → rV s R S X → rAs R X 0 (rSs R X 0 (rRl S 0 (rZones (rTa R l r s)))) = s' → rR M0 M m s →
    XZ E 89 (xZ E 89 Q) 30 [some (.ref m), some (.int v), some (.int (nI r)), l3] [] M nx 0 0 := by
  intro l
  induction l with
  | zero =>
    intro r s M l3 hr hv hs h
    have hR := hv.1
    obtain rfl : r = R := by omega
    refine XZ.runH 60 [30, 64] ?_
    simp only [n89, n109, t89, ↓xh, ↓xst, ↓xrunE, ↓rG, rL, rSt, updA, List.elem_nil, List.elem_cons, Nat.reduceBEq, Bool.false_eq_true, if_false, if_true, true_and, and_true, true_or, or_true, not_false_eq_true, Nat.reduceAdd, Nat.reduceSub, Nat.reduceLeDiff, Nat.reduceEqDiff, Nat.reduceLT, ↓reduceIte, List.length_cons, List.length_nil, List.set_cons_zero, List.set_cons_succ, Nat.le_refl, Nat.zero_le, Nat.zero_sub, Nat.sub_zero, List.nil_append, List.cons_append, Option.toList_some, Option.toList_none, eq_self, ↓rO1 h.1, hR.2, nI_le (Nat.le_refl r) (show r < 2 ^ 31 by omega)]
    refine rc109 hb h (fun k hk => (hv.2.2.2.1 k hk).2) (fun M1 h1 => ?_)
    refine XZ.runH 60 [64] ?_
    simp only [n89, t89, ↓xh, ↓xst, ↓xrunE, ↓rG, rL, rSt, updA, List.elem_nil, List.elem_cons, Nat.reduceBEq, Bool.false_eq_true, if_false, if_true, true_and, and_true, true_or, or_true, not_false_eq_true, Nat.reduceAdd, Nat.reduceSub, Nat.reduceLeDiff, Nat.reduceEqDiff, Nat.reduceLT, ↓reduceIte, List.length_cons, List.length_nil, List.set_cons_zero, List.set_cons_succ, Nat.le_refl, Nat.zero_le, Nat.zero_sub, Nat.sub_zero, List.nil_append, List.cons_append, Option.toList_some, Option.toList_none, eq_self]
    exact rla89 hb hq S 0 _ M1 _ (by omega) (hv.x (rX.zn s)) hs h1
  | succ l ih =>
    intro r s M l3 hr hv hs h
    have hR := hv.1
    have ir := nIx (show r < 6 by omega)
    have g := nI_ge (show r < R by omega) (show R < 2 ^ 31 by omega)
    rw [rTa] at hs
    refine XZ.runH 60 [30, 64, 52] ?_
    by_cases c1 : s.2 6 r = 0
    · rw [if_pos c1] at hs
      simp only [n89, t89, ↓xh, ↓xst, ↓xrunE, ↓rG, rL, rSt, updA, List.elem_nil, List.elem_cons, Nat.reduceBEq, Bool.false_eq_true, if_false, if_true, true_and, and_true, true_or, or_true, not_false_eq_true, Nat.reduceAdd, Nat.reduceSub, Nat.reduceLeDiff, Nat.reduceEqDiff, Nat.reduceLT, ↓reduceIte, List.length_cons, List.length_nil, List.set_cons_zero, List.set_cons_succ, Nat.le_refl, Nat.zero_le, Nat.zero_sub, Nat.sub_zero, List.nil_append, List.cons_append, Option.toList_some, Option.toList_none, eq_self, ↓rO1 h.1, ↓rB h.1, hR.2, g, ir, c1]
      refine XZ.runH 60 [30] ?_
      simp only [n89, t89, ↓xh, ↓xst, ↓xrunE, ↓rG, rL, rSt, updA, List.elem_nil, List.elem_cons, Nat.reduceBEq, Bool.false_eq_true, if_false, if_true, true_and, and_true, true_or, or_true, not_false_eq_true, Nat.reduceAdd, Nat.reduceSub, Nat.reduceLeDiff, Nat.reduceEqDiff, Nat.reduceLT, ↓reduceIte, List.length_cons, List.length_nil, List.set_cons_zero, List.set_cons_succ, Nat.le_refl, Nat.zero_le, Nat.zero_sub, Nat.sub_zero, List.nil_append, List.cons_append, Option.toList_some, Option.toList_none, eq_self, nI_1]
      exact ih (r + 1) s M _ (by omega) hv hs h
    · rw [if_neg c1] at hs
      simp only [n89, n108, t89, ↓xh, ↓xst, ↓xrunE, ↓rG, rL, rSt, updA, List.elem_nil, List.elem_cons, Nat.reduceBEq, Bool.false_eq_true, if_false, if_true, true_and, and_true, true_or, or_true, not_false_eq_true, Nat.reduceAdd, Nat.reduceSub, Nat.reduceLeDiff, Nat.reduceEqDiff, Nat.reduceLT, ↓reduceIte, List.length_cons, List.length_nil, List.set_cons_zero, List.set_cons_succ, Nat.le_refl, Nat.zero_le, Nat.zero_sub, Nat.sub_zero, List.nil_append, List.cons_append, Option.toList_some, Option.toList_none, eq_self, ↓rO1 h.1, ↓rB h.1, hR.2, g, ir, c1]
      refine rc108 hb h (by omega) hR.1 hR.2 (fun M1 h1 => ?_)
      refine XZ.runH 60 [30] ?_
      simp only [n89, t89, ↓xh, ↓xst, ↓xrunE, ↓rG, rL, rSt, updA, List.elem_nil, List.elem_cons, Nat.reduceBEq, Bool.false_eq_true, if_false, if_true, true_and, and_true, true_or, or_true, not_false_eq_true, Nat.reduceAdd, Nat.reduceSub, Nat.reduceLeDiff, Nat.reduceEqDiff, Nat.reduceLT, ↓reduceIte, List.length_cons, List.length_nil, List.set_cons_zero, List.set_cons_succ, Nat.le_refl, Nat.zero_le, Nat.zero_sub, Nat.sub_zero, List.nil_append, List.cons_append, Option.toList_some, Option.toList_none, eq_self, nI_1]
      exact ih (r + 1) _ M1 _ (by omega) (hv.x (rX.ts hR.1 r s)) hs h1
set_option maxRecDepth 100000 in
set_option maxHeartbeats 4000000 in
theorem rc89 {E : xE} {M0 M : xM} {m nx R S X : Nat} {s : rS} {Q : Option Value → xM → Nat → Prop} (hb : xb E ≤ m) (h : rR M0 M m s) (hv : rV s R S X) (hq : ∀ M', rR M0 M' m (rTick s R S X) → Q (some (.int (nI (rCpK (rT1 s) 48 0 0)))) M' nx) : XC E 89 [.ref m] M nx Q := by
  have v1 : rV (rT1 s) R S X := hv.x (rX.now s _)
  have v2 : rV (rT2 s) R S X := v1.x (rX.cp _)
  refine XC.run 60 [10, 209] ?_
  simp only [n89, t89, ↓xh, ↓xst, ↓xrunE, ↓rG, rL, rSt, updA, List.elem_nil, List.elem_cons, Nat.reduceBEq, Bool.false_eq_true, if_false, if_true, true_and, and_true, true_or, or_true, not_false_eq_true, Nat.reduceAdd, Nat.reduceSub, Nat.reduceLeDiff, Nat.reduceEqDiff, Nat.reduceLT, ↓reduceIte, List.length_cons, List.length_nil, List.set_cons_zero, List.set_cons_succ, Nat.le_refl, Nat.zero_le, Nat.zero_sub, Nat.sub_zero, List.nil_append, List.cons_append, Option.toList_some, Option.toList_none, eq_self, ↓rO1 h.1, hb]
  refine XZ.abs h.fl (fun M1 h1 => ?_)
  have h1' : rR M0 M1 m (rT1 s) := h1
  refine XZ.runH 60 [30] ?_
  simp only [n89, n106, t89, ↓xh, ↓xst, ↓xrunE, ↓rG, rL, rSt, updA, List.elem_nil, List.elem_cons, Nat.reduceBEq, Bool.false_eq_true, if_false, if_true, true_and, and_true, true_or, or_true, not_false_eq_true, Nat.reduceAdd, Nat.reduceSub, Nat.reduceLeDiff, Nat.reduceEqDiff, Nat.reduceLT, ↓reduceIte, List.length_cons, List.length_nil, List.set_cons_zero, List.set_cons_succ, Nat.le_refl, Nat.zero_le, Nat.zero_sub, Nat.sub_zero, List.nil_append, List.cons_append, Option.toList_some, Option.toList_none, eq_self, ↓rO1 h1.1]
  refine rc106 hb h1' (fun M2 h2 => ?_)
  have h2' : rR M0 M2 m (rT2 s) := h2
  refine XZ.runH 60 [30] ?_
  by_cases c1 : (rT2 s).1 21 &&& 1 = 0
  · have e3 : rT3 s = rPt (rAgeF (rT2 s)) (rT2 s) 0 48 := by rw [rT3, if_pos c1]
    simp only [n89, n107, t89, ↓xh, ↓xst, ↓xrunE, ↓rG, rL, rSt, updA, List.elem_nil, List.elem_cons, Nat.reduceBEq, Bool.false_eq_true, if_false, if_true, true_and, and_true, true_or, or_true, not_false_eq_true, Nat.reduceAdd, Nat.reduceSub, Nat.reduceLeDiff, Nat.reduceEqDiff, Nat.reduceLT, ↓reduceIte, List.length_cons, List.length_nil, List.set_cons_zero, List.set_cons_succ, Nat.le_refl, Nat.zero_le, Nat.zero_sub, Nat.sub_zero, List.nil_append, List.cons_append, Option.toList_some, Option.toList_none, eq_self, ↓rO1 h2'.1, c1]
    refine rc107 hb h2' (fun M3 h3 => ?_)
    refine XZ.runH 60 [30] ?_
    simp only [n89, t89, ↓xh, ↓xst, ↓xrunE, ↓rG, rL, rSt, updA, List.elem_nil, List.elem_cons, Nat.reduceBEq, Bool.false_eq_true, if_false, if_true, true_and, and_true, true_or, or_true, not_false_eq_true, Nat.reduceAdd, Nat.reduceSub, Nat.reduceLeDiff, Nat.reduceEqDiff, Nat.reduceLT, ↓reduceIte, List.length_cons, List.length_nil, List.set_cons_zero, List.set_cons_succ, Nat.le_refl, Nat.zero_le, Nat.zero_sub, Nat.sub_zero, List.nil_append, List.cons_append, Option.toList_some, Option.toList_none, eq_self]
    exact rl89 hb hq R 0 _ M3 _ (by omega) (by rw [e3]; exact v2.x (rX.age _)) rfl (h3.to e3.symm)
  · have e3 : rT3 s = rT2 s := by rw [rT3, if_neg c1]
    simp only [n89, t89, ↓xh, ↓xst, ↓xrunE, ↓rG, rL, rSt, updA, List.elem_nil, List.elem_cons, Nat.reduceBEq, Bool.false_eq_true, if_false, if_true, true_and, and_true, true_or, or_true, not_false_eq_true, Nat.reduceAdd, Nat.reduceSub, Nat.reduceLeDiff, Nat.reduceEqDiff, Nat.reduceLT, ↓reduceIte, List.length_cons, List.length_nil, List.set_cons_zero, List.set_cons_succ, Nat.le_refl, Nat.zero_le, Nat.zero_sub, Nat.sub_zero, List.nil_append, List.cons_append, Option.toList_some, Option.toList_none, eq_self, ↓rO1 h2'.1, c1]
    exact rl89 hb hq R 0 _ M2 _ (by omega) (by rw [e3]; exact v2) rfl (h2'.to e3.symm)
