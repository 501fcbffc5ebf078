/-! patterns with a zone; what fits -/
theorem jIx_e {f : Nat → Int32} {x : Int32} : ∀ l k j, jIx f x l k = some j → f j = x
  | 0, _, _, h => by cases h
  | l + 1, k, j, h => by
    rw [jIx] at h
    split at h
    · next c =>
      injection h with h
      rw [← h]; exact c
    · exact jIx_e l (k + 1) j h
/-- the text is a pattern -/
def rPok (s : rS) (n c t : Nat) : Prop := rPl s 58 n 0 = some c ∧ rPl s 64 n 0 = some t ∧ ¬ t < c ∧ rMask s 0 c = true ∧ rMask s (c + 1) t = true ∧ (rStar s n t = true ∨ rNm s (t + 1) n = true)
section PA2
variable {E : xE} {nx : Nat} {M : xM} {Q : Option Value → xM → Nat → Prop}
set_option maxRecDepth 100000 in
set_option maxHeartbeats 4000000 in
theorem mc72 {s : rS} {P : Nat → Prop} {a p n : Nat} {f : Nat → Int32} (hx : xb E ≤ nx) (he : nX E M) (hP : ∀ q, q < xb E ∨ nx ≤ q → P q) (ha : a < nx ∧ p < nx) (hPa : P a ∧ P p) (h : jS M a p n f) (hn : n ≤ 32) (tx : tX f s 0 n)
    (q0 : ∀ M' nx', jG M M' nx nx' → (¬ ∃ c t, rPok s n c t) → Q (some .null) M' nx')
    (q1 : ∀ c t M' nx' pt go gt gz, rPok s n c t → c < t → t < n → jG M M' nx nx' → pPt P M' nx' pt c go (t - (c + 1)) gt (n - (t + 1)) gz → tX go s 0 c → tX gt s (c + 1) (t - (c + 1)) → tX gz s (t + 1) (n - (t + 1)) → Q (some (.ref pt)) M' nx') : XC E 72 [.ref a] M nx Q := by
  have ix : rPl s 58 n 0 = jIx f 58 n 0 := by
    have := tIx sm_58 tx n 0 (by omega)
    rw [← show (jIx f 58 n 0).map (0 + ·) = rPl s 58 n 0 by simpa using this]; cases jIx f 58 n 0 <;> simp
  have iy : rPl s 64 n 0 = jIx f 64 n 0 := by
    have := tIx sm_64 tx n 0 (by omega)
    rw [← show (jIx f 64 n 0).map (0 + ·) = rPl s 64 n 0 by simpa using this]; cases jIx f 64 n 0 <;> simp
  refine XC.run 60 [] ?_
  simp only [n72, n143, t72, ↓xh, ↓xst, ↓xrunE, ↓rG, rL, rSt, updA, List.elem_nil, List.elem_cons, Nat.reduceBEq, Bool.false_eq_true, if_false, if_true, true_and, and_true, true_or, or_true, not_false_eq_true, Nat.reduceAdd, Nat.reduceSub, Nat.reduceLeDiff, Nat.reduceEqDiff, Nat.reduceLT, ↓reduceIte, List.length_cons, List.length_nil, List.set_cons_zero, List.set_cons_succ, Nat.le_refl, Nat.zero_le, Nat.zero_sub, Nat.sub_zero, List.nil_append, List.cons_append, Option.toList_some, Option.toList_none, eq_self, ↓jO h]
  refine jc143 h ⟨58, by decide, rfl⟩ ?_
  refine XZ.runH 60 [] ?_
  simp only [n72, n143, t72, ↓xh, ↓xst, ↓xrunE, ↓rG, rL, rSt, updA, List.elem_nil, List.elem_cons, Nat.reduceBEq, Bool.false_eq_true, if_false, if_true, true_and, and_true, true_or, or_true, not_false_eq_true, Nat.reduceAdd, Nat.reduceSub, Nat.reduceLeDiff, Nat.reduceEqDiff, Nat.reduceLT, ↓reduceIte, List.length_cons, List.length_nil, List.set_cons_zero, List.set_cons_succ, Nat.le_refl, Nat.zero_le, Nat.zero_sub, Nat.sub_zero, List.nil_append, List.cons_append, Option.toList_some, Option.toList_none, eq_self, ↓jO h]
  refine jc143 h ⟨64, by decide, rfl⟩ ?_
  cases hj : jIx f 58 n 0 with
  | none =>
    refine XZ.runH 60 [] ?_
    simp only [n72, t72, ↓xh, ↓xst, ↓xrunE, ↓rG, rL, rSt, updA, List.elem_nil, List.elem_cons, Nat.reduceBEq, Bool.false_eq_true, if_false, if_true, true_and, and_true, true_or, or_true, not_false_eq_true, Nat.reduceAdd, Nat.reduceSub, Nat.reduceLeDiff, Nat.reduceEqDiff, Nat.reduceLT, ↓reduceIte, List.length_cons, List.length_nil, List.set_cons_zero, List.set_cons_succ, Nat.le_refl, Nat.zero_le, Nat.zero_sub, Nat.sub_zero, List.nil_append, List.cons_append, Option.toList_some, Option.toList_none, eq_self, Option.elim, show (-1 : Int32) < 0 by decide]
    exact q0 M nx (jG.rf M nx) (fun ⟨c, t, z⟩ => by rw [rPok, ix, hj] at z; exact absurd z.1 (by simp))
  | some c =>
    have hc := jIx_lt _ _ _ _ _ hj
    have fc := jIx_e _ _ _ hj
    have p0 := nI_pos (show c < 2 ^ 31 by omega)
    cases hk : jIx f 64 n 0 with
    | none =>
      have z := m1_lt c (by omega)
      refine XZ.runH 60 [] ?_
      simp only [n72, t72, ↓xh, ↓xst, ↓xrunE, ↓rG, rL, rSt, updA, List.elem_nil, List.elem_cons, Nat.reduceBEq, Bool.false_eq_true, if_false, if_true, true_and, and_true, true_or, or_true, not_false_eq_true, Nat.reduceAdd, Nat.reduceSub, Nat.reduceLeDiff, Nat.reduceEqDiff, Nat.reduceLT, ↓reduceIte, List.length_cons, List.length_nil, List.set_cons_zero, List.set_cons_succ, Nat.le_refl, Nat.zero_le, Nat.zero_sub, Nat.sub_zero, List.nil_append, List.cons_append, Option.toList_some, Option.toList_none, eq_self, Option.elim, p0, lT z]
      exact q0 M nx (jG.rf M nx) (fun ⟨c, t, z⟩ => by rw [rPok, iy, hk] at z; exact absurd z.2.1 (by simp))
    | some t =>
      have ht := jIx_lt _ _ _ _ _ hk
      have ft := jIx_e _ _ _ hk
      by_cases tc : t < c
      · have z := (nI_lti (show t < 2 ^ 31 by omega) (show c < 2 ^ 31 by omega)).mpr tc
        refine XZ.runH 60 [] ?_
        simp only [n72, t72, ↓xh, ↓xst, ↓xrunE, ↓rG, rL, rSt, updA, List.elem_nil, List.elem_cons, Nat.reduceBEq, Bool.false_eq_true, if_false, if_true, true_and, and_true, true_or, or_true, not_false_eq_true, Nat.reduceAdd, Nat.reduceSub, Nat.reduceLeDiff, Nat.reduceEqDiff, Nat.reduceLT, ↓reduceIte, List.length_cons, List.length_nil, List.set_cons_zero, List.set_cons_succ, Nat.le_refl, Nat.zero_le, Nat.zero_sub, Nat.sub_zero, List.nil_append, List.cons_append, Option.toList_some, Option.toList_none, eq_self, Option.elim, p0, lT z]
        refine q0 M nx (jG.rf M nx) (fun ⟨c', t', z⟩ => ?_)
        rw [rPok, ix, iy, hj, hk] at z
        obtain ⟨z1, z2, z3, _⟩ := z
        injection z1 with z1
        injection z2 with z2
        omega
      have ne : t ≠ c := fun y => by rw [y, fc] at ft; exact absurd ft (by decide)
      have ct : c < t := by omega
      have z := lF (k2_nlt (nI_le (show c ≤ t by omega) (show t < 2 ^ 31 by omega)))
      have notok : ∀ (d : ¬ (rMask s 0 c = true ∧ rMask s (c + 1) t = true ∧ (rStar s n t = true ∨ rNm s (t + 1) n = true))), ¬ ∃ c t, rPok s n c t := by
        rintro d ⟨c', t', z⟩
        rw [rPok, ix, iy, hj, hk] at z
        obtain ⟨z1, z2, z3, z4⟩ := z
        injection z1 with z1
        injection z2 with z2
        subst z1 z2
        exact d z4
      obtain ⟨_, ⟨pe, fe, je, le1, le2⟩, ⟨ps, fs, jst, es, ls1, ls2⟩, _⟩ := id he
      have hPe : P (E.2.2.2 1) ∧ P pe := ⟨hP _ (Or.inl le1), hP _ (Or.inl le2)⟩
      refine XZ.runH 60 [] ?_
      simp only [n72, n144, t72, ↓xh, ↓xst, ↓xrunE, ↓rG, rL, rSt, updA, List.elem_nil, List.elem_cons, Nat.reduceBEq, Bool.false_eq_true, if_false, if_true, true_and, and_true, true_or, or_true, not_false_eq_true, Nat.reduceAdd, Nat.reduceSub, Nat.reduceLeDiff, Nat.reduceEqDiff, Nat.reduceLT, ↓reduceIte, List.length_cons, List.length_nil, List.set_cons_zero, List.set_cons_succ, Nat.le_refl, Nat.zero_le, Nat.zero_sub, Nat.sub_zero, List.nil_append, List.cons_append, Option.toList_some, Option.toList_none, eq_self, Option.elim, p0, z, ↓jO h]
      refine jd144 (P := P) (i := 0) (j := c) hx ha.2 h je (by omega) (by omega) (by omega) ha.1 hPa hPe ⟨by omega, by omega⟩ ⟨hP _ (Or.inr (by omega)), hP _ (Or.inr (by omega))⟩ (fun o op go M1 nx1 jo eo g1 po => ?_)
      rw [Nat.sub_zero] at jo eo
      have h1 : jS M1 a p n f := h.mv (g1.2 _ ha.1) (g1.2 _ ha.2)
      have je1 : jS M1 (E.2.2.2 1) pe 0 fe := je.mv (g1.2 _ (by omega)) (g1.2 _ (by omega))
      have n1 := g1.1
      refine XZ.runH 60 [] ?_
      simp only [n72, n144, t72, ↓xh, ↓xst, ↓xrunE, ↓rG, rL, rSt, updA, List.elem_nil, List.elem_cons, Nat.reduceBEq, Bool.false_eq_true, if_false, if_true, true_and, and_true, true_or, or_true, not_false_eq_true, Nat.reduceAdd, Nat.reduceSub, Nat.reduceLeDiff, Nat.reduceEqDiff, Nat.reduceLT, ↓reduceIte, List.length_cons, List.length_nil, List.set_cons_zero, List.set_cons_succ, Nat.le_refl, Nat.zero_le, Nat.zero_sub, Nat.sub_zero, List.nil_append, List.cons_append, Option.toList_some, Option.toList_none, eq_self, nI_1, ↓jO h1]
      refine jd144 (P := P) (i := c + 1) (j := t) (by omega) (by omega) h1 je1 (by omega) (by omega) (by omega) (by omega) hPa hPe ⟨by omega, by omega⟩ ⟨hP _ (Or.inr (by omega)), hP _ (Or.inr (by omega))⟩ (fun ty tp gt M2 nx2 jt et g2 pt => ?_)
      have g12 := g1.tr g2
      have n2 := g2.1
      have h2 : jS M2 a p n f := h.mv (g12.2 _ ha.1) (g12.2 _ ha.2)
      have je2 : jS M2 (E.2.2.2 1) pe 0 fe := je.mv (g12.2 _ (by omega)) (g12.2 _ (by omega))
      refine XZ.runH 60 [] ?_
      simp only [n72, n145, t72, ↓xh, ↓xst, ↓xrunE, ↓rG, rL, rSt, updA, List.elem_nil, List.elem_cons, Nat.reduceBEq, Bool.false_eq_true, if_false, if_true, true_and, and_true, true_or, or_true, not_false_eq_true, Nat.reduceAdd, Nat.reduceSub, Nat.reduceLeDiff, Nat.reduceEqDiff, Nat.reduceLT, ↓reduceIte, List.length_cons, List.length_nil, List.set_cons_zero, List.set_cons_succ, Nat.le_refl, Nat.zero_le, Nat.zero_sub, Nat.sub_zero, List.nil_append, List.cons_append, Option.toList_some, Option.toList_none, eq_self, nI_1, ↓jO h2]
      refine jd145 (P := P) (i := t + 1) (by omega) (by omega) h2 je2 (by omega) (by omega) (by omega) hPa hPe ⟨by omega, by omega⟩ ⟨hP _ (Or.inr (by omega)), hP _ (Or.inr (by omega))⟩ (fun zo zp gz M3 nx3 jz ez g3 pz => ?_)
      have g13 := g12.tr g3
      have n3 := g3.1
      have jo3 : jS M3 o op c go := jo.mv ((g3.2 o (by omega)).trans (g2.2 o (by omega))) ((g3.2 op (by omega)).trans (g2.2 op (by omega)))
      have jt3 : jS M3 ty tp (t - (c + 1)) gt := jt.mv (g3.2 ty (by omega)) (g3.2 tp (by omega))
      have jst3 : jS M3 (E.2.2.2 2) ps 1 fs := jst.mv (g13.2 (E.2.2.2 2) (by omega)) (g13.2 ps (by omega))
      have he3 : nX E M3 := he.mv (fun q hq => g13.2 q (by omega))
      have txo : tX go s 0 c := by have := tx.sub (i := 0) (m := c) (g := go) (by omega) (fun k hk => eo k hk); simpa using this
      have txt : tX gt s (c + 1) (t - (c + 1)) := by have := tx.sub (i := c + 1) (m := t - (c + 1)) (g := gt) (by omega) (fun k hk => et k hk); simpa using this
      have txz : tX gz s (t + 1) (n - (t + 1)) := by have := tx.sub (i := t + 1) (m := n - (t + 1)) (g := gz) (by omega) (fun k hk => ez k hk); simpa using this
      have mo : nMask go c = rMask s 0 c := by have := tMask txo; rw [Nat.zero_add] at this; exact this
      have mt : nMask gt (t - (c + 1)) = rMask s (c + 1) t := by have := tMask txt; rw [show c + 1 + (t - (c + 1)) = t by omega] at this; exact this
      have nz : nNm gz (n - (t + 1)) = rNm s (t + 1) n := by have := tNm txz; rw [show t + 1 + (n - (t + 1)) = n by omega] at this; exact this
      have st : (n - (t + 1) = 1 ∧ jEq gz fs (n - (t + 1)) 0 = true) ↔ rStar s n t = true := by
        unfold rStar
        simp only [Bool.and_eq_true, decide_eq_true_eq]
        constructor
        · rintro ⟨y1, y2⟩
          rw [y1, jEq, jEq, es, (txz 0 (by omega)).1, Nat.add_zero] at y2
          obtain ⟨x, hx', ex⟩ := (txz 0 (by omega)).2
          rw [Nat.add_zero] at ex
          refine ⟨by omega, ?_⟩
          rw [show n - 1 = t + 1 by omega, ex]
          rw [ex] at y2
          split at y2
          · next y3 => exact (sm_42 x hx').mp y3
          · cases y2
        · rintro ⟨y1, y2⟩
          have y3 : n - (t + 1) = 1 := by omega
          refine ⟨y3, ?_⟩
          rw [y3, jEq, jEq, es, (txz 0 (by omega)).1, Nat.add_zero]
          rw [show n - 1 = t + 1 by omega] at y2
          rw [y2]
          rfl
      have fin : ∀ b : Bool, (b = true ↔ (rStar s n t = true ∨ rNm s (t + 1) n = true)) → XZ E 72 (xZ E 72 Q) 76 [some (.ref a), some (.int (nI c)), some (.int (nI t)), some (.ref o), some (.ref ty), some (.ref zo), some (.int (if b = true then 1 else 0))] [] M3 nx3 1 3 := by
        intro b hb
        refine XZ.runH 60 [99] ?_
        by_cases b1 : b = true
        rotate_left
        · rw [if_neg b1]
          simp only [n72, t72, ↓xh, ↓xst, ↓xrunE, ↓rG, rL, rSt, updA, List.elem_nil, List.elem_cons, Nat.reduceBEq, Bool.false_eq_true, if_false, if_true, true_and, and_true, true_or, or_true, not_false_eq_true, Nat.reduceAdd, Nat.reduceSub, Nat.reduceLeDiff, Nat.reduceEqDiff, Nat.reduceLT, ↓reduceIte, List.length_cons, List.length_nil, List.set_cons_zero, List.set_cons_succ, Nat.le_refl, Nat.zero_le, Nat.zero_sub, Nat.sub_zero, List.nil_append, List.cons_append, Option.toList_some, Option.toList_none, eq_self]
          exact q0 M3 nx3 g13 (notok (fun y => b1 (hb.mpr y.2.2)))
        rw [if_pos b1]
        simp only [n72, n76, t72, ↓xh, ↓xst, ↓xrunE, ↓rG, rL, rSt, updA, List.elem_nil, List.elem_cons, Nat.reduceBEq, Bool.false_eq_true, if_false, if_true, true_and, and_true, true_or, or_true, not_false_eq_true, Nat.reduceAdd, Nat.reduceSub, Nat.reduceLeDiff, Nat.reduceEqDiff, Nat.reduceLT, ↓reduceIte, List.length_cons, List.length_nil, List.set_cons_zero, List.set_cons_succ, Nat.le_refl, Nat.zero_le, Nat.zero_sub, Nat.sub_zero, List.nil_append, List.cons_append, Option.toList_some, Option.toList_none, eq_self, show ¬ (1 : Int32) = 0 by decide]
        refine nc76 he3.e jo3 ?_
        rw [mo]
        refine XZ.runH 60 [99] ?_
        by_cases b2 : rMask s 0 c = true
        rotate_left
        · rw [if_neg b2]
          simp only [n72, t72, ↓xh, ↓xst, ↓xrunE, ↓rG, rL, rSt, updA, List.elem_nil, List.elem_cons, Nat.reduceBEq, Bool.false_eq_true, if_false, if_true, true_and, and_true, true_or, or_true, not_false_eq_true, Nat.reduceAdd, Nat.reduceSub, Nat.reduceLeDiff, Nat.reduceEqDiff, Nat.reduceLT, ↓reduceIte, List.length_cons, List.length_nil, List.set_cons_zero, List.set_cons_succ, Nat.le_refl, Nat.zero_le, Nat.zero_sub, Nat.sub_zero, List.nil_append, List.cons_append, Option.toList_some, Option.toList_none, eq_self]
          exact q0 M3 nx3 g13 (notok (fun y => b2 y.1))
        rw [if_pos b2]
        simp only [n72, n76, t72, ↓xh, ↓xst, ↓xrunE, ↓rG, rL, rSt, updA, List.elem_nil, List.elem_cons, Nat.reduceBEq, Bool.false_eq_true, if_false, if_true, true_and, and_true, true_or, or_true, not_false_eq_true, Nat.reduceAdd, Nat.reduceSub, Nat.reduceLeDiff, Nat.reduceEqDiff, Nat.reduceLT, ↓reduceIte, List.length_cons, List.length_nil, List.set_cons_zero, List.set_cons_succ, Nat.le_refl, Nat.zero_le, Nat.zero_sub, Nat.sub_zero, List.nil_append, List.cons_append, Option.toList_some, Option.toList_none, eq_self, show ¬ (1 : Int32) = 0 by decide]
        refine nc76 he3.e jt3 ?_
        rw [mt]
        refine XZ.runH 60 [99] ?_
        by_cases b3 : rMask s (c + 1) t = true
        rotate_left
        · rw [if_neg b3]
          simp only [n72, t72, ↓xh, ↓xst, ↓xrunE, ↓rG, rL, rSt, updA, List.elem_nil, List.elem_cons, Nat.reduceBEq, Bool.false_eq_true, if_false, if_true, true_and, and_true, true_or, or_true, not_false_eq_true, Nat.reduceAdd, Nat.reduceSub, Nat.reduceLeDiff, Nat.reduceEqDiff, Nat.reduceLT, ↓reduceIte, List.length_cons, List.length_nil, List.set_cons_zero, List.set_cons_succ, Nat.le_refl, Nat.zero_le, Nat.zero_sub, Nat.sub_zero, List.nil_append, List.cons_append, Option.toList_some, Option.toList_none, eq_self]
          exact q0 M3 nx3 g13 (notok (fun y => b3 y.2.1))
        rw [if_pos b3]
        simp only [n72, t72, ↓xh, ↓xst, ↓xrunE, ↓rG, rL, rSt, updA, List.elem_nil, List.elem_cons, Nat.reduceBEq, Bool.false_eq_true, if_false, if_true, true_and, and_true, true_or, or_true, not_false_eq_true, Nat.reduceAdd, Nat.reduceSub, Nat.reduceLeDiff, Nat.reduceEqDiff, Nat.reduceLT, ↓reduceIte, List.length_cons, List.length_nil, List.set_cons_zero, List.set_cons_succ, Nat.le_refl, Nat.zero_le, Nat.zero_sub, Nat.sub_zero, List.nil_append, List.cons_append, Option.toList_some, Option.toList_none, eq_self, show ¬ (1 : Int32) = 0 by decide, cx8]
        refine XZ.abs2 (P := fun M' => jN M3 M' nx3 (.inl (8, [.null, .null, .null]))) (jN_put M3 nx3 _) (fun M4 j4 => ?_)
        refine XZ.runH 60 [] ?_
        simp only [n72, n73, t72, ↓xh, ↓xst, ↓xrunE, ↓rG, rL, rSt, updA, List.elem_nil, List.elem_cons, Nat.reduceBEq, Bool.false_eq_true, if_false, if_true, true_and, and_true, true_or, or_true, not_false_eq_true, Nat.reduceAdd, Nat.reduceSub, Nat.reduceLeDiff, Nat.reduceEqDiff, Nat.reduceLT, ↓reduceIte, List.length_cons, List.length_nil, List.set_cons_zero, List.set_cons_succ, Nat.le_refl, Nat.zero_le, Nat.zero_sub, Nat.sub_zero, List.nil_append, List.cons_append, Option.toList_some, Option.toList_none, eq_self]
        refine mc73 (by omega) j4.1 (fun M5 j5 => ?_)
        refine XZ.runH 60 [] ?_
        simp only [n72, t72, ↓xh, ↓xst, ↓xrunE, ↓rG, rL, rSt, updA, List.elem_nil, List.elem_cons, Nat.reduceBEq, Bool.false_eq_true, if_false, if_true, true_and, and_true, true_or, or_true, not_false_eq_true, Nat.reduceAdd, Nat.reduceSub, Nat.reduceLeDiff, Nat.reduceEqDiff, Nat.reduceLT, ↓reduceIte, List.length_cons, List.length_nil, List.set_cons_zero, List.set_cons_succ, Nat.le_refl, Nat.zero_le, Nat.zero_sub, Nat.sub_zero, List.nil_append, List.cons_append, Option.toList_some, Option.toList_none, eq_self]
        have g35 : ∀ q, q < nx3 → M5 q = M3 q := fun q hq => (j5.2 q (by omega)).trans (j4.2 q (by omega))
        exact q1 c t M5 (nx3 + 1) nx3 go gt gz ⟨ix.trans hj, iy.trans hk, tc, b2, b3, hb.mp b1⟩ ct (by omega) ⟨by omega, fun q hq => (g35 q (by omega)).trans (g13.2 q hq)⟩ ⟨o, op, ty, tp, zo, zp, j5.1, jo3.mv (g35 o (by omega)) (g35 op (by omega)), jt3.mv (g35 ty (by omega)) (g35 tp (by omega)), jz.mv (g35 zo (by omega)) (g35 zp (by omega)), ⟨hP nx3 (Or.inr (by omega)), po.1, po.2.1, pt.1, pt.2.1, pz.1, pz.2.1⟩, ⟨by omega, by omega, by omega, by omega, by omega, by omega, by omega⟩⟩ txo txt txz
      refine XZ.runH 60 [76] ?_
      simp only [n72, n146, t72, ↓xh, ↓xst, ↓xrunE, ↓rG, rL, rSt, updA, List.elem_nil, List.elem_cons, Nat.reduceBEq, Bool.false_eq_true, if_false, if_true, true_and, and_true, true_or, or_true, not_false_eq_true, Nat.reduceAdd, Nat.reduceSub, Nat.reduceLeDiff, Nat.reduceEqDiff, Nat.reduceLT, ↓reduceIte, List.length_cons, List.length_nil, List.set_cons_zero, List.set_cons_succ, Nat.le_refl, Nat.zero_le, Nat.zero_sub, Nat.sub_zero, List.nil_append, List.cons_append, Option.toList_some, Option.toList_none, eq_self, ↓jO jz]
      refine jd146 jz jst3 ?_
      refine XZ.runH 60 [76] ?_
      by_cases d1 : n - (t + 1) = 1 ∧ jEq gz fs (n - (t + 1)) 0 = true
      · rw [if_pos d1]
        have y := fin true ⟨fun _ => Or.inl (st.mp d1), fun _ => rfl⟩
        simp only [n72, t72, ↓xh, ↓xst, ↓xrunE, ↓rG, rL, rSt, updA, List.elem_nil, List.elem_cons, Nat.reduceBEq, Bool.false_eq_true, if_false, if_true, true_and, and_true, true_or, or_true, not_false_eq_true, Nat.reduceAdd, Nat.reduceSub, Nat.reduceLeDiff, Nat.reduceEqDiff, Nat.reduceLT, ↓reduceIte, List.length_cons, List.length_nil, List.set_cons_zero, List.set_cons_succ, Nat.le_refl, Nat.zero_le, Nat.zero_sub, Nat.sub_zero, List.nil_append, List.cons_append, Option.toList_some, Option.toList_none, eq_self, show ¬ (1 : Int32) = 0 by decide]
        exact y
      · rw [if_neg d1]
        simp only [n72, n74, t72, ↓xh, ↓xst, ↓xrunE, ↓rG, rL, rSt, updA, List.elem_nil, List.elem_cons, Nat.reduceBEq, Bool.false_eq_true, if_false, if_true, true_and, and_true, true_or, or_true, not_false_eq_true, Nat.reduceAdd, Nat.reduceSub, Nat.reduceLeDiff, Nat.reduceEqDiff, Nat.reduceLT, ↓reduceIte, List.length_cons, List.length_nil, List.set_cons_zero, List.set_cons_succ, Nat.le_refl, Nat.zero_le, Nat.zero_sub, Nat.sub_zero, List.nil_append, List.cons_append, Option.toList_some, Option.toList_none, eq_self]
        refine nc74 he3.e jz ?_
        rw [nz]
        refine XZ.runH 60 [76] ?_
        have y := fin (rNm s (t + 1) n) ⟨fun e => Or.inr e, fun e => by rcases e with e | e; exact absurd (st.mpr e) d1; exact e⟩
        by_cases d2 : rNm s (t + 1) n = true
        · rw [if_pos d2] at y ⊢
          simp only [n72, t72, ↓xh, ↓xst, ↓xrunE, ↓rG, rL, rSt, updA, List.elem_nil, List.elem_cons, Nat.reduceBEq, Bool.false_eq_true, if_false, if_true, true_and, and_true, true_or, or_true, not_false_eq_true, Nat.reduceAdd, Nat.reduceSub, Nat.reduceLeDiff, Nat.reduceEqDiff, Nat.reduceLT, ↓reduceIte, List.length_cons, List.length_nil, List.set_cons_zero, List.set_cons_succ, Nat.le_refl, Nat.zero_le, Nat.zero_sub, Nat.sub_zero, List.nil_append, List.cons_append, Option.toList_some, Option.toList_none, eq_self, show ¬ (1 : Int32) = 0 by decide]
          exact y
        · rw [if_neg d2] at y ⊢
          simp only [n72, t72, ↓xh, ↓xst, ↓xrunE, ↓rG, rL, rSt, updA, List.elem_nil, List.elem_cons, Nat.reduceBEq, Bool.false_eq_true, if_false, if_true, true_and, and_true, true_or, or_true, not_false_eq_true, Nat.reduceAdd, Nat.reduceSub, Nat.reduceLeDiff, Nat.reduceEqDiff, Nat.reduceLT, ↓reduceIte, List.length_cons, List.length_nil, List.set_cons_zero, List.set_cons_succ, Nat.le_refl, Nat.zero_le, Nat.zero_sub, Nat.sub_zero, List.nil_append, List.cons_append, Option.toList_some, Option.toList_none, eq_self]
          exact y
set_option maxRecDepth 100000 in
set_option maxHeartbeats 4000000 in
theorem mc62 {B : Nat} {M0 : xM} {A : cA} {v : cV} {s : rS} {P : Nat → Prop} {i pt no nt nz n1 n2 : Nat} {go gt gz g1 g2 : Nat → Int32} (h : cR E B M0 M A v) (he : nE E M) (hi : i < A 2 2) (e3 : v 19 i 3 = s.2 17 i) (hp : pPt P M nx pt no go nt gt nz gz) (j1 : jS M (A 7 (8 + i)) (A 8 (8 + i)) n1 g1) (j2 : jS M (A 7 (24 + i)) (A 8 (24 + i)) n2 g2) (hq : Q (some (.int (if (decide (s.2 17 i = 0) && nFits go g1 no n1 && nFits gt g2 nt n2) = true then 1 else 0))) M nx) : XC E 62 [.ref (A 5 i), .ref pt] M nx Q := by
  obtain ⟨o, op, ty, tp, z, zp, mp, jo, jt, jz, _⟩ := hp
  refine XC.run 60 [] ?_
  by_cases d : s.2 17 i = 0
  rotate_left
  · simp only [n62, t62, ↓xh, ↓xst, ↓xrunE, ↓rG, rL, rSt, updA, List.elem_nil, List.elem_cons, Nat.reduceBEq, Bool.false_eq_true, if_false, if_true, true_and, and_true, true_or, or_true, not_false_eq_true, Nat.reduceAdd, Nat.reduceSub, Nat.reduceLeDiff, Nat.reduceEqDiff, Nat.reduceLT, ↓reduceIte, List.length_cons, List.length_nil, List.set_cons_zero, List.set_cons_succ, Nat.le_refl, Nat.zero_le, Nat.zero_sub, Nat.sub_zero, List.nil_append, List.cons_append, Option.toList_some, Option.toList_none, eq_self, ↓cSv h hi, e3, d]
    simpa [d] using hq
  simp only [n62, n77, t62, ↓xh, ↓xst, ↓xrunE, ↓rG, rL, rSt, updA, List.elem_nil, List.elem_cons, Nat.reduceBEq, Bool.false_eq_true, if_false, if_true, true_and, and_true, true_or, or_true, not_false_eq_true, Nat.reduceAdd, Nat.reduceSub, Nat.reduceLeDiff, Nat.reduceEqDiff, Nat.reduceLT, ↓reduceIte, List.length_cons, List.length_nil, List.set_cons_zero, List.set_cons_succ, Nat.le_refl, Nat.zero_le, Nat.zero_sub, Nat.sub_zero, List.nil_append, List.cons_append, Option.toList_some, Option.toList_none, eq_self, ↓cSv h hi, e3, d, ↓cO mp]
  refine nc77 he jo j1 ?_
  refine XZ.runH 60 [] ?_
  by_cases f1 : nFits go g1 no n1 = true
  rotate_left
  · rw [if_neg f1]
    simp only [n62, t62, ↓xh, ↓xst, ↓xrunE, ↓rG, rL, rSt, updA, List.elem_nil, List.elem_cons, Nat.reduceBEq, Bool.false_eq_true, if_false, if_true, true_and, and_true, true_or, or_true, not_false_eq_true, Nat.reduceAdd, Nat.reduceSub, Nat.reduceLeDiff, Nat.reduceEqDiff, Nat.reduceLT, ↓reduceIte, List.length_cons, List.length_nil, List.set_cons_zero, List.set_cons_succ, Nat.le_refl, Nat.zero_le, Nat.zero_sub, Nat.sub_zero, List.nil_append, List.cons_append, Option.toList_some, Option.toList_none, eq_self]
    simpa [f1] using hq
  rw [if_pos f1]
  simp only [n62, n77, t62, ↓xh, ↓xst, ↓xrunE, ↓rG, rL, rSt, updA, List.elem_nil, List.elem_cons, Nat.reduceBEq, Bool.false_eq_true, if_false, if_true, true_and, and_true, true_or, or_true, not_false_eq_true, Nat.reduceAdd, Nat.reduceSub, Nat.reduceLeDiff, Nat.reduceEqDiff, Nat.reduceLT, ↓reduceIte, List.length_cons, List.length_nil, List.set_cons_zero, List.set_cons_succ, Nat.le_refl, Nat.zero_le, Nat.zero_sub, Nat.sub_zero, List.nil_append, List.cons_append, Option.toList_some, Option.toList_none, eq_self, show ¬ (1 : Int32) = 0 by decide, ↓cSv h hi, ↓cO mp]
  refine nc77 he jt j2 ?_
  refine XZ.runH 60 [] ?_
  by_cases f2 : nFits gt g2 nt n2 = true
  rotate_left
  · rw [if_neg f2]
    simp only [n62, t62, ↓xh, ↓xst, ↓xrunE, ↓rG, rL, rSt, updA, List.elem_nil, List.elem_cons, Nat.reduceBEq, Bool.false_eq_true, if_false, if_true, true_and, and_true, true_or, or_true, not_false_eq_true, Nat.reduceAdd, Nat.reduceSub, Nat.reduceLeDiff, Nat.reduceEqDiff, Nat.reduceLT, ↓reduceIte, List.length_cons, List.length_nil, List.set_cons_zero, List.set_cons_succ, Nat.le_refl, Nat.zero_le, Nat.zero_sub, Nat.sub_zero, List.nil_append, List.cons_append, Option.toList_some, Option.toList_none, eq_self]
    simpa [f2] using hq
  rw [if_pos f2]
  simp only [n62, t62, ↓xh, ↓xst, ↓xrunE, ↓rG, rL, rSt, updA, List.elem_nil, List.elem_cons, Nat.reduceBEq, Bool.false_eq_true, if_false, if_true, true_and, and_true, true_or, or_true, not_false_eq_true, Nat.reduceAdd, Nat.reduceSub, Nat.reduceLeDiff, Nat.reduceEqDiff, Nat.reduceLT, ↓reduceIte, List.length_cons, List.length_nil, List.set_cons_zero, List.set_cons_succ, Nat.le_refl, Nat.zero_le, Nat.zero_sub, Nat.sub_zero, List.nil_append, List.cons_append, Option.toList_some, Option.toList_none, eq_self, show ¬ (1 : Int32) = 0 by decide]
  simpa [d, f1, f2] using hq
end PA2
