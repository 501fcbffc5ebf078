theorem nI_8a (r : Nat) : (8 : Int32) + nI r = nI (8 + r) := (Int32.ofNat_add 8 r).symm
theorem nI_24a (r : Nat) : (24 : Int32) + nI r = nI (24 + r) := (Int32.ofNat_add 24 r).symm
theorem rKeep_2 (s : rS) (n a d : Nat) {j : Nat} (h2 : j ≠ 2) (h3 : j ≠ 3) : (rKeep s n a d).2 j = s.2 j := by
  rw [rKeep]; dsimp only; rw [up2_n h3]; funext k; simp [rPt, rKpF, h2]
/-- the network of a service's home -/
def rHm (s : rS) (i : Nat) : Nat := (s.2 16 i).toNatClampNeg / 8
/-- a service in the way of a new name: l are left, from i on -/
def rMkC (s : rS) (R Z A c i : Nat) : Bool := decide (¬ rReach s R Z (A / 8) (rHm s i) none < 0) && decide (s.2 17 i = 0) && rFits s 0 c (8 + i) && rFits s (c + 1) Z (24 + i)
def rMkL (s : rS) (R Z A c : Nat) : Nat → Nat → Bool
  | 0, _ => false
  | l + 1, i => if rMkC s R Z A c i then true else rMkL s R Z A c l (i + 1)
def rMkS (s : rS) (S Z A c : Nat) : rS := (upd s.1 22 (nI (S + 1)), up2 (rKeep (rKeep s (8 + S) 0 c) (24 + S) (c + 1) (Z - (c + 1))).2 16 S (nI A))
def rMake (s : rS) (R S Z A : Nat) : Int32 × rS := match rPl s 58 Z 0 with
  | none => (-2, s)
  | some c => if rNm s 0 c = true ∧ rNm s (c + 1) Z = true then (if rMkL s R Z A c S 0 then (-3, s) else if ¬ S < 16 then (-4, s) else (nI S, rMkS s S Z A c)) else (-2, s)
set_option maxRecDepth 100000 in
set_option maxHeartbeats 4000000 in
theorem rm104 {E : xE} {M0 M : xM} {m nx S Z A c : Nat} {l3 l4 : Option Value} {s : rS} {Q : Option Value → xM → Nat → Prop} (hb : xb E ≤ m) (h : rR M0 M m s) (hl : rLt s) (hS : S < 16) (h22 : s.1 22 = nI S) (hZ : Z ≤ 32) (h4 : s.1 4 = nI Z) (hc : c < Z) (hq : ∀ M', rR M0 M' m (rMkS s S Z A c) → Q (some (.int (nI S))) M' nx) :
    XZ E 104 (xZ E 104 Q) 133 [some (.ref m), some (.int (nI A)), some (.int (nI c)), l3, l4] [] M nx 0 0 := by
  refine XZ.runH 60 [174, 184] ?_
  simp only [n104, n101, t104, ↓xh, ↓xst, ↓xrunE, ↓rG, rL, rSt, updA, List.elem_nil, List.elem_cons, Nat.reduceBEq, Bool.false_eq_true, if_false, if_true, true_and, and_true, true_or, or_true, not_false_eq_true, Nat.reduceAdd, Nat.reduceSub, Nat.reduceLeDiff, Nat.reduceEqDiff, Nat.reduceLT, ↓reduceIte, List.length_cons, List.length_nil, List.set_cons_zero, List.set_cons_succ, Nat.le_refl, Nat.zero_le, Nat.zero_sub, Nat.sub_zero, List.nil_append, List.cons_append, Option.toList_some, Option.toList_none, eq_self, ↓rO1 h.1, h22, nI_8a]
  have k1 := @rc101 E M0 M m nx (8 + S) 0 c s
  rw [Nat.zero_add] at k1
  refine k1 hb h (by omega) (by omega) (fun k hk => hl.2.2 k (by omega)) (fun M1 h1 => ?_)
  refine XZ.runH 60 [174, 184] ?_
  have e22 : (rKeep s (8 + S) 0 c).1 22 = nI S := h22
  have e4 : (rKeep s (8 + S) 0 c).1 4 = nI Z := h4
  simp only [n104, n101, t104, ↓xh, ↓xst, ↓xrunE, ↓rG, rL, rSt, updA, List.elem_nil, List.elem_cons, Nat.reduceBEq, Bool.false_eq_true, if_false, if_true, true_and, and_true, true_or, or_true, not_false_eq_true, Nat.reduceAdd, Nat.reduceSub, Nat.reduceLeDiff, Nat.reduceEqDiff, Nat.reduceLT, ↓reduceIte, List.length_cons, List.length_nil, List.set_cons_zero, List.set_cons_succ, Nat.le_refl, Nat.zero_le, Nat.zero_sub, Nat.sub_zero, List.nil_append, List.cons_append, Option.toList_some, Option.toList_none, eq_self, ↓rO1 h1.1, e22, e4, nI_24a, nI_1]
  have k2 := @rc101 E M0 M1 m nx (24 + S) (c + 1) (Z - (c + 1)) (rKeep s (8 + S) 0 c)
  rw [Nat.add_sub_of_le (show c + 1 ≤ Z by omega)] at k2
  refine k2 hb h1 (by omega) hZ (fun k hk => by rw [rKeep_2 _ _ _ _ (by decide) (by decide)]; exact hl.2.2 k (by omega)) (fun M2 h2 => ?_)
  refine XZ.runH 60 [174, 184] ?_
  have f22 : (rKeep (rKeep s (8 + S) 0 c) (24 + S) (c + 1) (Z - (c + 1))).1 22 = nI S := h22
  simp only [n104, t104, ↓xh, ↓xst, ↓xrunE, ↓rG, rL, rSt, updA, List.elem_nil, List.elem_cons, Nat.reduceBEq, Bool.false_eq_true, if_false, if_true, true_and, and_true, true_or, or_true, not_false_eq_true, Nat.reduceAdd, Nat.reduceSub, Nat.reduceLeDiff, Nat.reduceEqDiff, Nat.reduceLT, ↓reduceIte, List.length_cons, List.length_nil, List.set_cons_zero, List.set_cons_succ, Nat.le_refl, Nat.zero_le, Nat.zero_sub, Nat.sub_zero, List.nil_append, List.cons_append, Option.toList_some, Option.toList_none, eq_self, ↓rO1 h2.1, ↓rB h2.1, f22, nIx hS, xn0, xbj hb]
  refine XZ.abs (h2.arr 16 _ _ (by decide) (by decide)) (fun M3 h3 => ?_)
  refine XZ.runH 60 [174, 184] ?_
  simp only [n104, t104, ↓xh, ↓xst, ↓xrunE, ↓rG, rL, rSt, updA, List.elem_nil, List.elem_cons, Nat.reduceBEq, Bool.false_eq_true, if_false, if_true, true_and, and_true, true_or, or_true, not_false_eq_true, Nat.reduceAdd, Nat.reduceSub, Nat.reduceLeDiff, Nat.reduceEqDiff, Nat.reduceLT, ↓reduceIte, List.length_cons, List.length_nil, List.set_cons_zero, List.set_cons_succ, Nat.le_refl, Nat.zero_le, Nat.zero_sub, Nat.sub_zero, List.nil_append, List.cons_append, Option.toList_some, Option.toList_none, eq_self, ↓rO1 h3.1, f22, nI_1, hb]
  refine XZ.abs h3.fl (fun M4 h4 => ?_)
  refine XZ.runH 60 [] ?_
  simp only [n104, t104, ↓xh, ↓xst, ↓xrunE, ↓rG, rL, rSt, updA, List.elem_nil, List.elem_cons, Nat.reduceBEq, Bool.false_eq_true, if_false, if_true, true_and, and_true, true_or, or_true, not_false_eq_true, Nat.reduceAdd, Nat.reduceSub, Nat.reduceLeDiff, Nat.reduceEqDiff, Nat.reduceLT, ↓reduceIte, List.length_cons, List.length_nil, List.set_cons_zero, List.set_cons_succ, Nat.le_refl, Nat.zero_le, Nat.zero_sub, Nat.sub_zero, List.nil_append, List.cons_append, Option.toList_some, Option.toList_none, eq_self, ↓rO1 h4.1, updA, nI_pred]
  exact hq M4 h4
set_option maxRecDepth 100000 in
set_option maxHeartbeats 4000000 in
theorem rl104 {E : xE} {M0 M : xM} {m nx R S Z A c : Nat} {s : rS} {Q : Option Value → xM → Nat → Prop} (hb : xb E ≤ m) (h : rR M0 M m s) (hl : rLt s) (hR : R ≤ 6) (h9 : s.1 9 = nI R) (hnx : ∀ k, k < 48 → rRt (s.2 8 k)) (hS : S ≤ 16) (h22 : s.1 22 = nI S) (hZ : Z ≤ 32) (h4 : s.1 4 = nI Z) (hA : A < 64) (hh : ∀ i, i < S → ∃ B, B < 64 ∧ s.2 16 i = nI B) (hc0 : 0 < c) (hc : c + 1 < Z)
    (hq3 : rMkL s R Z A c S 0 = true → Q (some (.int (-3))) M nx) (hq4 : rMkL s R Z A c S 0 = false → ¬ S < 16 → Q (some (.int (-4))) M nx) (hq : rMkL s R Z A c S 0 = false → S < 16 → ∀ M', rR M0 M' m (rMkS s S Z A c) → Q (some (.int (nI S))) M' nx) :
    ∀ l i l4, i + l = S → rMkL s R Z A c S 0 = rMkL s R Z A c l i → XZ E 104 (xZ E 104 Q) 39 [some (.ref m), some (.int (nI A)), some (.int (nI c)), some (.int (nI i)), l4] [] M nx 0 0 := by
  intro l
  induction l with
  | zero =>
    intro i l4 hi he
    obtain rfl : i = S := by omega
    refine XZ.runH 60 [39, 133] ?_
    by_cases c1 : i < 16
    · have g : nI i < 16 := k2_lt (nI_ge c1 (by decide))
      simp only [n104, t104, ↓xh, ↓xst, ↓xrunE, ↓rG, rL, rSt, updA, List.elem_nil, List.elem_cons, Nat.reduceBEq, Bool.false_eq_true, if_false, if_true, true_and, and_true, true_or, or_true, not_false_eq_true, Nat.reduceAdd, Nat.reduceSub, Nat.reduceLeDiff, Nat.reduceEqDiff, Nat.reduceLT, ↓reduceIte, List.length_cons, List.length_nil, List.set_cons_zero, List.set_cons_succ, Nat.le_refl, Nat.zero_le, Nat.zero_sub, Nat.sub_zero, List.nil_append, List.cons_append, Option.toList_some, Option.toList_none, eq_self, ↓rO1 h.1, h22, nI_le (Nat.le_refl i) (show i < 2 ^ 31 by omega), g]
      exact rm104 hb h hl c1 h22 hZ h4 (by omega) (hq he c1)
    · obtain rfl : i = 16 := by omega
      simp only [n104, t104, ↓xh, ↓xst, ↓xrunE, ↓rG, rL, rSt, updA, List.elem_nil, List.elem_cons, Nat.reduceBEq, Bool.false_eq_true, if_false, if_true, true_and, and_true, true_or, or_true, not_false_eq_true, Nat.reduceAdd, Nat.reduceSub, Nat.reduceLeDiff, Nat.reduceEqDiff, Nat.reduceLT, ↓reduceIte, List.length_cons, List.length_nil, List.set_cons_zero, List.set_cons_succ, Nat.le_refl, Nat.zero_le, Nat.zero_sub, Nat.sub_zero, List.nil_append, List.cons_append, Option.toList_some, Option.toList_none, eq_self, ↓rO1 h.1, h22, nI_le (Nat.le_refl 16) (by decide), show ¬ nI 16 < 16 by decide]
      exact hq4 he c1
  | succ l ih =>
    intro i l4 hi he
    obtain ⟨B, hB, eB⟩ := hh i (by omega)
    have eH : rHm s i = B / 8 := by rw [rHm, eB, nI_clamp (by omega)]
    have ii := nIx (show i < 16 by omega)
    have hA8 := nI_div8 A hA
    have hB8 := nI_div8 B hB
    rw [rMkL] at he
    have skip : rMkC s R Z A c i = false → ∀ l4, XZ E 104 (xZ E 104 Q) 115 [some (.ref m), some (.int (nI A)), some (.int (nI c)), some (.int (nI i)), l4] [] M nx 0 0 := by
      intro z l4
      rw [z] at he
      refine XZ.runH 60 [39] ?_
      simp only [n104, t104, ↓xh, ↓xst, ↓xrunE, ↓rG, rL, rSt, updA, List.elem_nil, List.elem_cons, Nat.reduceBEq, Bool.false_eq_true, if_false, if_true, true_and, and_true, true_or, or_true, not_false_eq_true, Nat.reduceAdd, Nat.reduceSub, Nat.reduceLeDiff, Nat.reduceEqDiff, Nat.reduceLT, ↓reduceIte, List.length_cons, List.length_nil, List.set_cons_zero, List.set_cons_succ, Nat.le_refl, Nat.zero_le, Nat.zero_sub, Nat.sub_zero, List.nil_append, List.cons_append, Option.toList_some, Option.toList_none, eq_self, nI_1]
      exact ih (i + 1) _ (by omega) he
    refine XZ.runH 60 [39, 115] ?_
    simp only [n104, n118, t104, ↓xh, ↓xst, ↓xrunE, ↓rG, rL, rSt, updA, List.elem_nil, List.elem_cons, Nat.reduceBEq, Bool.false_eq_true, if_false, if_true, true_and, and_true, true_or, or_true, not_false_eq_true, Nat.reduceAdd, Nat.reduceSub, Nat.reduceLeDiff, Nat.reduceEqDiff, Nat.reduceLT, ↓reduceIte, List.length_cons, List.length_nil, List.set_cons_zero, List.set_cons_succ, Nat.le_refl, Nat.zero_le, Nat.zero_sub, Nat.sub_zero, List.nil_append, List.cons_append, Option.toList_some, Option.toList_none, eq_self, ↓rO1 h.1, ↓rB h.1, h22, nI_ge (show i < S by omega) (show S < 2 ^ 31 by omega), ii, eB, hA8, hB8, show ¬ (8 : Int32) = 0 by decide]
    refine rc118 (R := R) (Z := Z) (a := A / 8) (b := B / 8) (p := none) h.1 hl hR h9 hZ h4 (by omega) (by omega) (by intro q z; cases z) hnx ?_
    rw [rMkC, eH] at skip he
    refine XZ.runH 60 [39, 115] ?_
    by_cases c1 : rReach s R Z (A / 8) (B / 8) none < 0
    · simp only [n104, t104, ↓xh, ↓xst, ↓xrunE, ↓rG, rL, rSt, updA, List.elem_nil, List.elem_cons, Nat.reduceBEq, Bool.false_eq_true, if_false, if_true, true_and, and_true, true_or, or_true, not_false_eq_true, Nat.reduceAdd, Nat.reduceSub, Nat.reduceLeDiff, Nat.reduceEqDiff, Nat.reduceLT, ↓reduceIte, List.length_cons, List.length_nil, List.set_cons_zero, List.set_cons_succ, Nat.le_refl, Nat.zero_le, Nat.zero_sub, Nat.sub_zero, List.nil_append, List.cons_append, Option.toList_some, Option.toList_none, eq_self, lT c1]
      exact skip (by simp [c1]) _
    by_cases c2 : s.2 17 i = 0
    rotate_left
    · simp only [n104, t104, ↓xh, ↓xst, ↓xrunE, ↓rG, rL, rSt, updA, List.elem_nil, List.elem_cons, Nat.reduceBEq, Bool.false_eq_true, if_false, if_true, true_and, and_true, true_or, or_true, not_false_eq_true, Nat.reduceAdd, Nat.reduceSub, Nat.reduceLeDiff, Nat.reduceEqDiff, Nat.reduceLT, ↓reduceIte, List.length_cons, List.length_nil, List.set_cons_zero, List.set_cons_succ, Nat.le_refl, Nat.zero_le, Nat.zero_sub, Nat.sub_zero, List.nil_append, List.cons_append, Option.toList_some, Option.toList_none, eq_self, lF c1, ↓rO1 h.1, ↓rB h.1, ii, c2]
      exact skip (by simp [c2]) _
    simp only [n104, n119, t104, ↓xh, ↓xst, ↓xrunE, ↓rG, rL, rSt, updA, List.elem_nil, List.elem_cons, Nat.reduceBEq, Bool.false_eq_true, if_false, if_true, true_and, and_true, true_or, or_true, not_false_eq_true, Nat.reduceAdd, Nat.reduceSub, Nat.reduceLeDiff, Nat.reduceEqDiff, Nat.reduceLT, ↓reduceIte, List.length_cons, List.length_nil, List.set_cons_zero, List.set_cons_succ, Nat.le_refl, Nat.zero_le, Nat.zero_sub, Nat.sub_zero, List.nil_append, List.cons_append, Option.toList_some, Option.toList_none, eq_self, lF c1, ↓rO1 h.1, ↓rB h.1, ii, c2, nI_8a]
    refine rc119 (a := 0) h.1 hl (by omega) hc0 (by omega) ?_
    refine XZ.runH 60 [39, 115] ?_
    by_cases c3 : rFits s 0 c (8 + i) = true
    rotate_left
    · simp only [n104, t104, ↓xh, ↓xst, ↓xrunE, ↓rG, rL, rSt, updA, List.elem_nil, List.elem_cons, Nat.reduceBEq, Bool.false_eq_true, if_false, if_true, true_and, and_true, true_or, or_true, not_false_eq_true, Nat.reduceAdd, Nat.reduceSub, Nat.reduceLeDiff, Nat.reduceEqDiff, Nat.reduceLT, ↓reduceIte, List.length_cons, List.length_nil, List.set_cons_zero, List.set_cons_succ, Nat.le_refl, Nat.zero_le, Nat.zero_sub, Nat.sub_zero, List.nil_append, List.cons_append, Option.toList_some, Option.toList_none, eq_self, c3]
      exact skip (by simp [c3]) _
    simp only [n104, n119, t104, ↓xh, ↓xst, ↓xrunE, ↓rG, rL, rSt, updA, List.elem_nil, List.elem_cons, Nat.reduceBEq, Bool.false_eq_true, if_false, if_true, true_and, and_true, true_or, or_true, not_false_eq_true, Nat.reduceAdd, Nat.reduceSub, Nat.reduceLeDiff, Nat.reduceEqDiff, Nat.reduceLT, ↓reduceIte, List.length_cons, List.length_nil, List.set_cons_zero, List.set_cons_succ, Nat.le_refl, Nat.zero_le, Nat.zero_sub, Nat.sub_zero, List.nil_append, List.cons_append, Option.toList_some, Option.toList_none, eq_self, c3, show ¬ (1 : Int32) = 0 by decide, ↓rO1 h.1, h4, nI_24a, nI_1]
    refine rc119 h.1 hl (by omega) (by omega) hZ ?_
    refine XZ.runH 60 [39, 115] ?_
    by_cases c5 : rFits s (c + 1) Z (24 + i) = true
    · simp only [n104, t104, ↓xh, ↓xst, ↓xrunE, ↓rG, rL, rSt, updA, List.elem_nil, List.elem_cons, Nat.reduceBEq, Bool.false_eq_true, if_false, if_true, true_and, and_true, true_or, or_true, not_false_eq_true, Nat.reduceAdd, Nat.reduceSub, Nat.reduceLeDiff, Nat.reduceEqDiff, Nat.reduceLT, ↓reduceIte, List.length_cons, List.length_nil, List.set_cons_zero, List.set_cons_succ, Nat.le_refl, Nat.zero_le, Nat.zero_sub, Nat.sub_zero, List.nil_append, List.cons_append, Option.toList_some, Option.toList_none, eq_self, c5, show ¬ (1 : Int32) = 0 by decide]
      exact hq3 (by rw [he]; simp [c1, c2, c3, c5])
    · simp only [n104, t104, ↓xh, ↓xst, ↓xrunE, ↓rG, rL, rSt, updA, List.elem_nil, List.elem_cons, Nat.reduceBEq, Bool.false_eq_true, if_false, if_true, true_and, and_true, true_or, or_true, not_false_eq_true, Nat.reduceAdd, Nat.reduceSub, Nat.reduceLeDiff, Nat.reduceEqDiff, Nat.reduceLT, ↓reduceIte, List.length_cons, List.length_nil, List.set_cons_zero, List.set_cons_succ, Nat.le_refl, Nat.zero_le, Nat.zero_sub, Nat.sub_zero, List.nil_append, List.cons_append, Option.toList_some, Option.toList_none, eq_self, c5]
      exact skip (by simp [c5]) _
theorem rNm_lt {s : rS} {a b : Nat} (h : rNm s a b = true) : a < b := by
  simp only [rNm, Bool.and_eq_true, decide_eq_true_eq] at h
  exact h.1
set_option maxRecDepth 100000 in
set_option maxHeartbeats 4000000 in
theorem rc104 {E : xE} {M0 M : xM} {m nx R S Z A : Nat} {s : rS} {Q : Option Value → xM → Nat → Prop} (hb : xb E ≤ m) (h : rR M0 M m s) (hl : rLt s) (hR : R ≤ 6) (h9 : s.1 9 = nI R) (hnx : ∀ k, k < 48 → rRt (s.2 8 k)) (hS : S ≤ 16) (h22 : s.1 22 = nI S) (hZ : Z ≤ 32) (h4 : s.1 4 = nI Z) (hA : A < 64) (hh : ∀ i, i < S → ∃ B, B < 64 ∧ s.2 16 i = nI B)
    (hq : ∀ M', rR M0 M' m (rMake s R S Z A).2 → Q (some (.int (rMake s R S Z A).1)) M' nx) : XC E 104 [.ref m, .int (nI A)] M nx Q := by
  refine XC.run 60 [39] ?_
  simp only [n104, n117, t104, ↓xh, ↓xst, ↓xrunE, ↓rG, rL, rSt, updA, List.elem_nil, List.elem_cons, Nat.reduceBEq, Bool.false_eq_true, if_false, if_true, true_and, and_true, true_or, or_true, not_false_eq_true, Nat.reduceAdd, Nat.reduceSub, Nat.reduceLeDiff, Nat.reduceEqDiff, Nat.reduceLT, ↓reduceIte, List.length_cons, List.length_nil, List.set_cons_zero, List.set_cons_succ, Nat.le_refl, Nat.zero_le, Nat.zero_sub, Nat.sub_zero, List.nil_append, List.cons_append, Option.toList_some, Option.toList_none, eq_self, ↓rO1 h.1]
  refine rc117 (Z := Z) h.1 hZ h4 ?_
  rw [rMake] at hq
  refine XZ.runH 60 [39] ?_
  cases hp : rPl s 58 Z 0 with
  | none =>
    rw [hp] at hq
    simp only [n104, t104, ↓xh, ↓xst, ↓xrunE, ↓rG, rL, rSt, updA, List.elem_nil, List.elem_cons, Nat.reduceBEq, Bool.false_eq_true, if_false, if_true, true_and, and_true, true_or, or_true, not_false_eq_true, Nat.reduceAdd, Nat.reduceSub, Nat.reduceLeDiff, Nat.reduceEqDiff, Nat.reduceLT, ↓reduceIte, List.length_cons, List.length_nil, List.set_cons_zero, List.set_cons_succ, Nat.le_refl, Nat.zero_le, Nat.zero_sub, Nat.sub_zero, List.nil_append, List.cons_append, Option.toList_some, Option.toList_none, eq_self, Option.elim, show (-1 : Int32) < 0 by decide]
    exact hq M h
  | some c =>
    rw [hp] at hq
    dsimp only at hq
    have lt := rPl_lt _ _ _ _ _ hp
    simp only [n104, n100, t104, ↓xh, ↓xst, ↓xrunE, ↓rG, rL, rSt, updA, List.elem_nil, List.elem_cons, Nat.reduceBEq, Bool.false_eq_true, if_false, if_true, true_and, and_true, true_or, or_true, not_false_eq_true, Nat.reduceAdd, Nat.reduceSub, Nat.reduceLeDiff, Nat.reduceEqDiff, Nat.reduceLT, ↓reduceIte, List.length_cons, List.length_nil, List.set_cons_zero, List.set_cons_succ, Nat.le_refl, Nat.zero_le, Nat.zero_sub, Nat.sub_zero, List.nil_append, List.cons_append, Option.toList_some, Option.toList_none, eq_self, Option.elim, lF (nI_pos (show c < 2 ^ 31 by omega)), ↓rO1 h.1]
    refine rc100 (a := 0) h.1 (by omega) (by omega) ?_
    refine XZ.runH 60 [39] ?_
    by_cases c1 : rNm s 0 c = true
    rotate_left
    · rw [if_neg (fun z => c1 z.1)] at hq
      simp only [n104, t104, ↓xh, ↓xst, ↓xrunE, ↓rG, rL, rSt, updA, List.elem_nil, List.elem_cons, Nat.reduceBEq, Bool.false_eq_true, if_false, if_true, true_and, and_true, true_or, or_true, not_false_eq_true, Nat.reduceAdd, Nat.reduceSub, Nat.reduceLeDiff, Nat.reduceEqDiff, Nat.reduceLT, ↓reduceIte, List.length_cons, List.length_nil, List.set_cons_zero, List.set_cons_succ, Nat.le_refl, Nat.zero_le, Nat.zero_sub, Nat.sub_zero, List.nil_append, List.cons_append, Option.toList_some, Option.toList_none, eq_self, c1]
      exact hq M h
    simp only [n104, n100, t104, ↓xh, ↓xst, ↓xrunE, ↓rG, rL, rSt, updA, List.elem_nil, List.elem_cons, Nat.reduceBEq, Bool.false_eq_true, if_false, if_true, true_and, and_true, true_or, or_true, not_false_eq_true, Nat.reduceAdd, Nat.reduceSub, Nat.reduceLeDiff, Nat.reduceEqDiff, Nat.reduceLT, ↓reduceIte, List.length_cons, List.length_nil, List.set_cons_zero, List.set_cons_succ, Nat.le_refl, Nat.zero_le, Nat.zero_sub, Nat.sub_zero, List.nil_append, List.cons_append, Option.toList_some, Option.toList_none, eq_self, c1, show ¬ (1 : Int32) = 0 by decide, ↓rO1 h.1, h4, nI_1]
    refine rc100 h.1 hZ (by omega) ?_
    refine XZ.runH 60 [39] ?_
    by_cases c2 : rNm s (c + 1) Z = true
    rotate_left
    · rw [if_neg (fun z => c2 z.2)] at hq
      simp only [n104, t104, ↓xh, ↓xst, ↓xrunE, ↓rG, rL, rSt, updA, List.elem_nil, List.elem_cons, Nat.reduceBEq, Bool.false_eq_true, if_false, if_true, true_and, and_true, true_or, or_true, not_false_eq_true, Nat.reduceAdd, Nat.reduceSub, Nat.reduceLeDiff, Nat.reduceEqDiff, Nat.reduceLT, ↓reduceIte, List.length_cons, List.length_nil, List.set_cons_zero, List.set_cons_succ, Nat.le_refl, Nat.zero_le, Nat.zero_sub, Nat.sub_zero, List.nil_append, List.cons_append, Option.toList_some, Option.toList_none, eq_self, c2]
      exact hq M h
    simp only [n104, t104, ↓xh, ↓xst, ↓xrunE, ↓rG, rL, rSt, updA, List.elem_nil, List.elem_cons, Nat.reduceBEq, Bool.false_eq_true, if_false, if_true, true_and, and_true, true_or, or_true, not_false_eq_true, Nat.reduceAdd, Nat.reduceSub, Nat.reduceLeDiff, Nat.reduceEqDiff, Nat.reduceLT, ↓reduceIte, List.length_cons, List.length_nil, List.set_cons_zero, List.set_cons_succ, Nat.le_refl, Nat.zero_le, Nat.zero_sub, Nat.sub_zero, List.nil_append, List.cons_append, Option.toList_some, Option.toList_none, eq_self, c2, show ¬ (1 : Int32) = 0 by decide]
    rw [if_pos ⟨c1, c2⟩] at hq
    have l1 := rNm_lt c1
    have l2 := rNm_lt c2
    refine rl104 hb h hl hR h9 hnx hS h22 hZ h4 hA hh l1 l2 (fun z => ?_) (fun z g => ?_) (fun z g => ?_) S 0 _ (by omega) rfl
    · rw [if_pos z] at hq; exact hq M h
    · rw [if_neg (by simp [z]), if_pos g] at hq; exact hq M h
    · rw [if_neg (by simp [z]), if_neg (by simp [g])] at hq; exact hq
def rName (s : rS) (R S Z : Nat) (x : Int32) : Int32 × rS := if rIsNode s x then ((rMake s R S Z x.toNatClampNeg).1, (upd (rMake s R S Z x.toNatClampNeg).2.1 4 0, (rMake s R S Z x.toNatClampNeg).2.2)) else (-1, (upd s.1 4 0, s.2))
set_option maxRecDepth 100000 in
set_option maxHeartbeats 4000000 in
theorem rc85 {E : xE} {M0 M : xM} {m nx R S Z : Nat} {x : Int32} {s : rS} {Q : Option Value → xM → Nat → Prop} (hb : xb E ≤ m) (h : rR M0 M m s) (hl : rLt s) (hR : R ≤ 6) (h9 : s.1 9 = nI R) (hnx : ∀ k, k < 48 → rRt (s.2 8 k)) (hS : S ≤ 16) (h22 : s.1 22 = nI S) (hZ : Z ≤ 32) (h4 : s.1 4 = nI Z) (hh : ∀ i, i < S → ∃ B, B < 64 ∧ s.2 16 i = nI B)
    (hq : ∀ M', rR M0 M' m (rName s R S Z x).2 → Q (some (.int (rName s R S Z x).1)) M' nx) : XC E 85 [.ref m, .int x] M nx Q := by
  rw [rName] at hq
  have fin : ∀ v s1 M1, (∀ M', rR M0 M' m (upd s1.1 4 0, s1.2) → Q (some (.int v)) M' nx) → rR M0 M1 m s1 → XZ E 85 (xZ E 85 Q) 17 [some (.ref m), some (.int x), none] [.int v] M1 nx 0 0 := by
    intro v s1 M1 kq h1
    refine XZ.runH 60 [23] ?_
    simp only [n85, t85, ↓xh, ↓xst, ↓xrunE, ↓rG, rL, rSt, updA, List.elem_nil, List.elem_cons, Nat.reduceBEq, Bool.false_eq_true, if_false, if_true, true_and, and_true, true_or, or_true, not_false_eq_true, Nat.reduceAdd, Nat.reduceSub, Nat.reduceLeDiff, Nat.reduceEqDiff, Nat.reduceLT, ↓reduceIte, List.length_cons, List.length_nil, List.set_cons_zero, List.set_cons_succ, Nat.le_refl, Nat.zero_le, Nat.zero_sub, Nat.sub_zero, List.nil_append, List.cons_append, Option.toList_some, Option.toList_none, eq_self, ↓rO1 h1.1, hb]
    refine XZ.abs h1.fl (fun M2 h2 => ?_)
    refine XZ.runH 60 [] ?_
    simp only [n85, t85, ↓xh, ↓xst, ↓xrunE, ↓rG, rL, rSt, updA, List.elem_nil, List.elem_cons, Nat.reduceBEq, Bool.false_eq_true, if_false, if_true, true_and, and_true, true_or, or_true, not_false_eq_true, Nat.reduceAdd, Nat.reduceSub, Nat.reduceLeDiff, Nat.reduceEqDiff, Nat.reduceLT, ↓reduceIte, List.length_cons, List.length_nil, List.set_cons_zero, List.set_cons_succ, Nat.le_refl, Nat.zero_le, Nat.zero_sub, Nat.sub_zero, List.nil_append, List.cons_append, Option.toList_some, Option.toList_none, eq_self]
    exact kq M2 h2
  refine XC.run 60 [17, 23] ?_
  simp only [n85, n103, t85, ↓xh, ↓xst, ↓xrunE, ↓rG, rL, rSt, updA, List.elem_nil, List.elem_cons, Nat.reduceBEq, Bool.false_eq_true, if_false, if_true, true_and, and_true, true_or, or_true, not_false_eq_true, Nat.reduceAdd, Nat.reduceSub, Nat.reduceLeDiff, Nat.reduceEqDiff, Nat.reduceLT, ↓reduceIte, List.length_cons, List.length_nil, List.set_cons_zero, List.set_cons_succ, Nat.le_refl, Nat.zero_le, Nat.zero_sub, Nat.sub_zero, List.nil_append, List.cons_append, Option.toList_some, Option.toList_none, eq_self, ↓rO1 h.1]
  refine rc103 h.1 ?_
  refine XZ.runH 60 [17, 23] ?_
  by_cases c1 : rIsNode s x = true
  · rw [if_pos c1] at hq
    obtain ⟨A, hA, rfl⟩ := rIsNode_v c1
    rw [nI_clamp (by omega)] at hq
    simp only [n85, n104, t85, ↓xh, ↓xst, ↓xrunE, ↓rG, rL, rSt, updA, List.elem_nil, List.elem_cons, Nat.reduceBEq, Bool.false_eq_true, if_false, if_true, true_and, and_true, true_or, or_true, not_false_eq_true, Nat.reduceAdd, Nat.reduceSub, Nat.reduceLeDiff, Nat.reduceEqDiff, Nat.reduceLT, ↓reduceIte, List.length_cons, List.length_nil, List.set_cons_zero, List.set_cons_succ, Nat.le_refl, Nat.zero_le, Nat.zero_sub, Nat.sub_zero, List.nil_append, List.cons_append, Option.toList_some, Option.toList_none, eq_self, c1, show ¬ (1 : Int32) = 0 by decide, ↓rO1 h.1]
    refine rc104 hb h hl hR h9 hnx hS h22 hZ h4 hA hh (fun M1 h1 => ?_)
    refine XZ.runH 60 [17, 23] ?_
    simp only [n85, t85, ↓xh, ↓xst, ↓xrunE, ↓rG, rL, rSt, updA, List.elem_nil, List.elem_cons, Nat.reduceBEq, Bool.false_eq_true, if_false, if_true, true_and, and_true, true_or, or_true, not_false_eq_true, Nat.reduceAdd, Nat.reduceSub, Nat.reduceLeDiff, Nat.reduceEqDiff, Nat.reduceLT, ↓reduceIte, List.length_cons, List.length_nil, List.set_cons_zero, List.set_cons_succ, Nat.le_refl, Nat.zero_le, Nat.zero_sub, Nat.sub_zero, List.nil_append, List.cons_append, Option.toList_some, Option.toList_none, eq_self]
    exact fin _ _ M1 hq h1
  · rw [if_neg c1] at hq
    simp only [n85, t85, ↓xh, ↓xst, ↓xrunE, ↓rG, rL, rSt, updA, List.elem_nil, List.elem_cons, Nat.reduceBEq, Bool.false_eq_true, if_false, if_true, true_and, and_true, true_or, or_true, not_false_eq_true, Nat.reduceAdd, Nat.reduceSub, Nat.reduceLeDiff, Nat.reduceEqDiff, Nat.reduceLT, ↓reduceIte, List.length_cons, List.length_nil, List.set_cons_zero, List.set_cons_succ, Nat.le_refl, Nat.zero_le, Nat.zero_sub, Nat.sub_zero, List.nil_append, List.cons_append, Option.toList_some, Option.toList_none, eq_self, c1]
    exact fin _ s M hq h
