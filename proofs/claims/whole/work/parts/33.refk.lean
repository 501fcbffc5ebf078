/-! THE REFERENCE'S CONSTRUCTOR -/
def rfk (m k j : Nat) : Value := if j ≤ k then .ref (m + j) else .null
def rFk (m k : Nat) (s : Nat → Int32) : List Value := [.int (s 0), .int (s 1), .int (s 2), rfk m k 1, .int (s 4), rfk m k 2, rfk m k 3, .int (s 7), rfk m k 4, .int (s 9), rfk m k 5, rfk m k 6, rfk m k 7, rfk m k 8, rfk m k 9, rfk m k 10, rfk m k 11, rfk m k 12, rfk m k 13, rfk m k 14, rfk m k 15, .int (s 21), .int (s 22), rfk m k 16, rfk m k 17, rfk m k 18, rfk m k 19, rfk m k 20, rfk m k 21, rfk m k 22, rfk m k 23, rfk m k 24, rfk m k 25, .int (s 33), .int (s 34), rfk m k 26, rfk m k 27, rfk m k 28, rfk m k 29, rfk m k 30, rfk m k 31, rfk m k 32, rfk m k 33, rfk m k 34, rfk m k 35, rfk m k 36, rfk m k 37, .int (s 47), .int (s 48)]
/-- k arrays are made -/
def rP (M0 M : xM) (m k : Nat) (s : Nat → Int32) : Prop := M m = some (.inl (12, rFk m k s)) ∧ (∀ j, 1 ≤ j → j ≤ k → M (m + j) = some (.inr (rty j, rln j, fun _ => .int 0))) ∧ ∀ q, ¬ (m ≤ q ∧ q ≤ m + k) → M q = M0 q
theorem XZ.abs2 {E : xE} {i : Nat} {Z : List Frame → Array Value → State → State → Prop} {pc : Nat} {L : List (Option Value)} {st : List Value} {M1 : xM} {nx cb sb : Nat} {P : xM → Prop} (h : P M1) (k : ∀ M', P M' → XZ E i Z pc L st M' nx cb sb) : XZ E i Z pc L st M1 nx cb sb := k M1 h
theorem rP.nx {M0 M : xM} {m k : Nat} {s : Nat → Int32} (h : rP M0 M m k s) : rP M0 (xput (xput M (m + (k + 1)) (.inr (rty (k + 1), rln (k + 1), fun _ => .int 0))) m (.inl (12, rFk m (k + 1) s))) m (k + 1) s := by
  refine ⟨xput_same _ _ _, fun j h1 h2 => ?_, fun q hq => ?_⟩
  · rw [xput_ne (by omega)]
    by_cases e : j = k + 1
    · subst e; exact xput_same _ _ _
    · rw [xput_ne (by omega)]; exact h.2.1 j h1 (by omega)
  · rw [xput_ne (by omega), xput_ne (by omega)]; exact h.2.2 q (by omega)
theorem rP.ob {M0 M : xM} {m k : Nat} {s : Nat → Int32} (h : rP M0 M m k s) (d : Nat) (hd : 0 < d) : ∀ c P, xobj (xput M (m + d) c) m 12 P = P (rFk m k s) := fun c P => by
  unfold xobj; rw [xput_ne (by omega), h.1]; simp
theorem rFk_L (m k : Nat) (s : Nat → Int32) : (rFk m k s).length = 49 := rfl
theorem rP.rR {M0 M : xM} {m : Nat} {s : Nat → Int32} (h : rP M0 M m 37 s) : rR M0 M m (s, fun _ _ => 0) := ⟨⟨h.1, fun j h1 h2 => h.2.1 j h1 h2⟩, h.2.2⟩
def rIn0 (a b c : Int32) : Nat → Int32 := upd (upd (upd (fun _ => 0) 0 (1 + (a &&& 3))) 1 (1 + (b &&& 3))) 2 (1 + (c &&& 15))
def rInF (j _k : Nat) : Int32 := if j = 7 then -1 else 0
def rInit (a b c : Int32) : rS := rPt rInF (rIn0 a b c, fun _ _ => 0) 0 48
set_option maxRecDepth 100000 in
set_option maxHeartbeats 4000000 in
theorem rl79 {E : xE} {M0 : xM} {m nx : Nat} {s : rS} {l1 l2 l3 : Option Value} {cb sb : Nat} {Q : Option Value → xM → Nat → Prop} (hb : xb E ≤ m) (hs : s.2 = fun _ _ => 0) (hq : ∀ M', rR M0 M' m (rPt rInF s 0 48) → Q none M' nx) : ∀ l k M, k + l = 48 → rR M0 M m (rPt rInF s 0 k) →
    XZ E 79 (xZ E 79 Q) 336 [some (.ref m), l1, l2, l3, some (.int (nI k))] [] M nx cb sb := by
  intro l
  induction l with
  | zero =>
    intro k M hk h
    obtain rfl : k = 48 := by omega
    refine XZ.runH 60 [336] ?_
    simp only [n79, t79, ↓xh, ↓xst, ↓xrunE, ↓rG, rL, rSt, updA, List.elem_nil, List.elem_cons, Nat.reduceBEq, Bool.false_eq_true, if_false, if_true, true_and, and_true, true_or, or_true, not_false_eq_true, Nat.reduceAdd, Nat.reduceSub, Nat.reduceLeDiff, Nat.reduceEqDiff, Nat.reduceLT, ↓reduceIte, List.length_cons, List.length_nil, List.set_cons_zero, List.set_cons_succ, Nat.le_refl, Nat.zero_le, Nat.zero_sub, Nat.sub_zero, List.nil_append, List.cons_append, Option.toList_some, Option.toList_none, eq_self, show (48 : Int32) ≤ nI 48 by decide]
    exact hq M h
  | succ l ih =>
    intro k M hk h
    have g : ¬ (48 : Int32) ≤ nI k := nI_ge (show k < 48 by omega) (by decide)
    refine XZ.runH 60 [351] ?_
    simp only [n79, t79, ↓xh, ↓xst, ↓xrunE, ↓rG, rL, rSt, updA, List.elem_nil, List.elem_cons, Nat.reduceBEq, Bool.false_eq_true, if_false, if_true, true_and, and_true, true_or, or_true, not_false_eq_true, Nat.reduceAdd, Nat.reduceSub, Nat.reduceLeDiff, Nat.reduceEqDiff, Nat.reduceLT, ↓reduceIte, List.length_cons, List.length_nil, List.set_cons_zero, List.set_cons_succ, Nat.le_refl, Nat.zero_le, Nat.zero_sub, Nat.sub_zero, List.nil_append, List.cons_append, Option.toList_some, Option.toList_none, eq_self, ↓rO1 h.1, ↓rB h.1, g, nIx (show k < 48 by omega), xn0, xbj hb]
    refine XZ.abs (h.arr 7 _ _ (by decide) (by decide)) (fun M1 h1 => ?_)
    refine XZ.runH 60 [336] ?_
    simp only [n79, t79, ↓xh, ↓xst, ↓xrunE, ↓rG, rL, rSt, updA, List.elem_nil, List.elem_cons, Nat.reduceBEq, Bool.false_eq_true, if_false, if_true, true_and, and_true, true_or, or_true, not_false_eq_true, Nat.reduceAdd, Nat.reduceSub, Nat.reduceLeDiff, Nat.reduceEqDiff, Nat.reduceLT, ↓reduceIte, List.length_cons, List.length_nil, List.set_cons_zero, List.set_cons_succ, Nat.le_refl, Nat.zero_le, Nat.zero_sub, Nat.sub_zero, List.nil_append, List.cons_append, Option.toList_some, Option.toList_none, eq_self, nI_1]
    refine ih (k + 1) M1 (by omega) (h1.to (rPt_step (s := s) (b := 0) (c := k) (fun j => ?_) (fun j i hi => ?_)))
    · simp only [Nat.zero_add, up2_at, rInF]
      by_cases z : j = 7
      · subst z; simp
      · have := rPt_at rInF s 0 k j
        simp only [Nat.zero_add] at this
        simp only [z, if_false]; rw [this, hs]
    · rw [up2_off (by omega)]
set_option maxRecDepth 100000 in
set_option maxHeartbeats 4000000 in
theorem rc79 {E : xE} {M0 : xM} {m : Nat} {a b c : Int32} {Q : Option Value → xM → Nat → Prop} (hb : xb E ≤ m) (h0 : rP M0 M0 m 0 (fun _ => 0)) (hq : ∀ M', rR M0 M' m (rInit a b c) → Q none M' (m + 38)) : XC E 79 [.ref m, .int a, .int b, .int c] M0 (m + 1) Q := by
  refine XC.run 60 [12] ?_
  simp only [n79, t79, ↓xh, ↓xst, ↓xrunE, ↓rG, rL, rSt, updA, List.elem_nil, List.elem_cons, Nat.reduceBEq, Bool.false_eq_true, if_false, if_true, true_and, and_true, true_or, or_true, not_false_eq_true, Nat.reduceAdd, Nat.reduceSub, Nat.reduceLeDiff, Nat.reduceEqDiff, Nat.reduceLT, ↓reduceIte, List.length_cons, List.length_nil, List.set_cons_zero, List.set_cons_succ, Nat.le_refl, Nat.zero_le, Nat.zero_sub, Nat.sub_zero, List.nil_append, List.cons_append, Option.toList_some, Option.toList_none, eq_self, ↓h0.ob 1 (by decide), rFk_L, hb, show (rFk m 0 (fun _ => 0)).set 3 (.ref (m + 1)) = rFk m 1 (fun _ => 0) from rfl, show Int32.toNatClampNeg 32 = 32 by decide, show ¬ (32 : Int32) < 0 by decide, Nat.reduceSub, Nat.reduceLeDiff]
  refine XZ.abs2 (P := fun M => rP M0 M m 1 (fun _ => 0)) h0.nx (fun M1 h1 => ?_)
  rw [Nat.add_assoc m 1 1]
  refine XZ.runH 60 [21] ?_
  simp only [n79, t79, ↓xh, ↓xst, ↓xrunE, ↓rG, rL, rSt, updA, List.elem_nil, List.elem_cons, Nat.reduceBEq, Bool.false_eq_true, if_false, if_true, true_and, and_true, true_or, or_true, not_false_eq_true, Nat.reduceAdd, Nat.reduceSub, Nat.reduceLeDiff, Nat.reduceEqDiff, Nat.reduceLT, ↓reduceIte, List.length_cons, List.length_nil, List.set_cons_zero, List.set_cons_succ, Nat.le_refl, Nat.zero_le, Nat.zero_sub, Nat.sub_zero, List.nil_append, List.cons_append, Option.toList_some, Option.toList_none, eq_self, ↓h1.ob 2 (by decide), rFk_L, hb, show (rFk m 1 (fun _ => 0)).set 5 (.ref (m + 2)) = rFk m 2 (fun _ => 0) from rfl, show Int32.toNatClampNeg 1280 = 1280 by decide, show ¬ (1280 : Int32) < 0 by decide, Nat.reduceSub, Nat.reduceLeDiff]
  refine XZ.abs2 (P := fun M => rP M0 M m 2 (fun _ => 0)) h1.nx (fun M2 h2 => ?_)
  rw [Nat.add_assoc m 2 1]
  refine XZ.runH 60 [29] ?_
  simp only [n79, t79, ↓xh, ↓xst, ↓xrunE, ↓rG, rL, rSt, updA, List.elem_nil, List.elem_cons, Nat.reduceBEq, Bool.false_eq_true, if_false, if_true, true_and, and_true, true_or, or_true, not_false_eq_true, Nat.reduceAdd, Nat.reduceSub, Nat.reduceLeDiff, Nat.reduceEqDiff, Nat.reduceLT, ↓reduceIte, List.length_cons, List.length_nil, List.set_cons_zero, List.set_cons_succ, Nat.le_refl, Nat.zero_le, Nat.zero_sub, Nat.sub_zero, List.nil_append, List.cons_append, Option.toList_some, Option.toList_none, eq_self, ↓h2.ob 3 (by decide), rFk_L, hb, show (rFk m 2 (fun _ => 0)).set 6 (.ref (m + 3)) = rFk m 3 (fun _ => 0) from rfl, show Int32.toNatClampNeg 40 = 40 by decide, show ¬ (40 : Int32) < 0 by decide, Nat.reduceSub, Nat.reduceLeDiff]
  refine XZ.abs2 (P := fun M => rP M0 M m 3 (fun _ => 0)) h2.nx (fun M3 h3 => ?_)
  rw [Nat.add_assoc m 3 1]
  refine XZ.runH 60 [37] ?_
  simp only [n79, t79, ↓xh, ↓xst, ↓xrunE, ↓rG, rL, rSt, updA, List.elem_nil, List.elem_cons, Nat.reduceBEq, Bool.false_eq_true, if_false, if_true, true_and, and_true, true_or, or_true, not_false_eq_true, Nat.reduceAdd, Nat.reduceSub, Nat.reduceLeDiff, Nat.reduceEqDiff, Nat.reduceLT, ↓reduceIte, List.length_cons, List.length_nil, List.set_cons_zero, List.set_cons_succ, Nat.le_refl, Nat.zero_le, Nat.zero_sub, Nat.sub_zero, List.nil_append, List.cons_append, Option.toList_some, Option.toList_none, eq_self, ↓h3.ob 4 (by decide), rFk_L, hb, show (rFk m 3 (fun _ => 0)).set 8 (.ref (m + 4)) = rFk m 4 (fun _ => 0) from rfl, show Int32.toNatClampNeg 64 = 64 by decide, show ¬ (64 : Int32) < 0 by decide, Nat.reduceSub, Nat.reduceLeDiff]
  refine XZ.abs2 (P := fun M => rP M0 M m 4 (fun _ => 0)) h3.nx (fun M4 h4 => ?_)
  rw [Nat.add_assoc m 4 1]
  refine XZ.runH 60 [45] ?_
  simp only [n79, t79, ↓xh, ↓xst, ↓xrunE, ↓rG, rL, rSt, updA, List.elem_nil, List.elem_cons, Nat.reduceBEq, Bool.false_eq_true, if_false, if_true, true_and, and_true, true_or, or_true, not_false_eq_true, Nat.reduceAdd, Nat.reduceSub, Nat.reduceLeDiff, Nat.reduceEqDiff, Nat.reduceLT, ↓reduceIte, List.length_cons, List.length_nil, List.set_cons_zero, List.set_cons_succ, Nat.le_refl, Nat.zero_le, Nat.zero_sub, Nat.sub_zero, List.nil_append, List.cons_append, Option.toList_some, Option.toList_none, eq_self, ↓h4.ob 5 (by decide), rFk_L, hb, show (rFk m 4 (fun _ => 0)).set 10 (.ref (m + 5)) = rFk m 5 (fun _ => 0) from rfl, show Int32.toNatClampNeg 6 = 6 by decide, show ¬ (6 : Int32) < 0 by decide, Nat.reduceSub, Nat.reduceLeDiff]
  refine XZ.abs2 (P := fun M => rP M0 M m 5 (fun _ => 0)) h4.nx (fun M5 h5 => ?_)
  rw [Nat.add_assoc m 5 1]
  refine XZ.runH 60 [53] ?_
  simp only [n79, t79, ↓xh, ↓xst, ↓xrunE, ↓rG, rL, rSt, updA, List.elem_nil, List.elem_cons, Nat.reduceBEq, Bool.false_eq_true, if_false, if_true, true_and, and_true, true_or, or_true, not_false_eq_true, Nat.reduceAdd, Nat.reduceSub, Nat.reduceLeDiff, Nat.reduceEqDiff, Nat.reduceLT, ↓reduceIte, List.length_cons, List.length_nil, List.set_cons_zero, List.set_cons_succ, Nat.le_refl, Nat.zero_le, Nat.zero_sub, Nat.sub_zero, List.nil_append, List.cons_append, Option.toList_some, Option.toList_none, eq_self, ↓h5.ob 6 (by decide), rFk_L, hb, show (rFk m 5 (fun _ => 0)).set 11 (.ref (m + 6)) = rFk m 6 (fun _ => 0) from rfl, show Int32.toNatClampNeg 6 = 6 by decide, show ¬ (6 : Int32) < 0 by decide, Nat.reduceSub, Nat.reduceLeDiff]
  refine XZ.abs2 (P := fun M => rP M0 M m 6 (fun _ => 0)) h5.nx (fun M6 h6 => ?_)
  rw [Nat.add_assoc m 6 1]
  refine XZ.runH 60 [61] ?_
  simp only [n79, t79, ↓xh, ↓xst, ↓xrunE, ↓rG, rL, rSt, updA, List.elem_nil, List.elem_cons, Nat.reduceBEq, Bool.false_eq_true, if_false, if_true, true_and, and_true, true_or, or_true, not_false_eq_true, Nat.reduceAdd, Nat.reduceSub, Nat.reduceLeDiff, Nat.reduceEqDiff, Nat.reduceLT, ↓reduceIte, List.length_cons, List.length_nil, List.set_cons_zero, List.set_cons_succ, Nat.le_refl, Nat.zero_le, Nat.zero_sub, Nat.sub_zero, List.nil_append, List.cons_append, Option.toList_some, Option.toList_none, eq_self, ↓h6.ob 7 (by decide), rFk_L, hb, show (rFk m 6 (fun _ => 0)).set 12 (.ref (m + 7)) = rFk m 7 (fun _ => 0) from rfl, show Int32.toNatClampNeg 48 = 48 by decide, show ¬ (48 : Int32) < 0 by decide, Nat.reduceSub, Nat.reduceLeDiff]
  refine XZ.abs2 (P := fun M => rP M0 M m 7 (fun _ => 0)) h6.nx (fun M7 h7 => ?_)
  rw [Nat.add_assoc m 7 1]
  refine XZ.runH 60 [69] ?_
  simp only [n79, t79, ↓xh, ↓xst, ↓xrunE, ↓rG, rL, rSt, updA, List.elem_nil, List.elem_cons, Nat.reduceBEq, Bool.false_eq_true, if_false, if_true, true_and, and_true, true_or, or_true, not_false_eq_true, Nat.reduceAdd, Nat.reduceSub, Nat.reduceLeDiff, Nat.reduceEqDiff, Nat.reduceLT, ↓reduceIte, List.length_cons, List.length_nil, List.set_cons_zero, List.set_cons_succ, Nat.le_refl, Nat.zero_le, Nat.zero_sub, Nat.sub_zero, List.nil_append, List.cons_append, Option.toList_some, Option.toList_none, eq_self, ↓h7.ob 8 (by decide), rFk_L, hb, show (rFk m 7 (fun _ => 0)).set 13 (.ref (m + 8)) = rFk m 8 (fun _ => 0) from rfl, show Int32.toNatClampNeg 48 = 48 by decide, show ¬ (48 : Int32) < 0 by decide, Nat.reduceSub, Nat.reduceLeDiff]
  refine XZ.abs2 (P := fun M => rP M0 M m 8 (fun _ => 0)) h7.nx (fun M8 h8 => ?_)
  rw [Nat.add_assoc m 8 1]
  refine XZ.runH 60 [77] ?_
  simp only [n79, t79, ↓xh, ↓xst, ↓xrunE, ↓rG, rL, rSt, updA, List.elem_nil, List.elem_cons, Nat.reduceBEq, Bool.false_eq_true, if_false, if_true, true_and, and_true, true_or, or_true, not_false_eq_true, Nat.reduceAdd, Nat.reduceSub, Nat.reduceLeDiff, Nat.reduceEqDiff, Nat.reduceLT, ↓reduceIte, List.length_cons, List.length_nil, List.set_cons_zero, List.set_cons_succ, Nat.le_refl, Nat.zero_le, Nat.zero_sub, Nat.sub_zero, List.nil_append, List.cons_append, Option.toList_some, Option.toList_none, eq_self, ↓h8.ob 9 (by decide), rFk_L, hb, show (rFk m 8 (fun _ => 0)).set 14 (.ref (m + 9)) = rFk m 9 (fun _ => 0) from rfl, show Int32.toNatClampNeg 48 = 48 by decide, show ¬ (48 : Int32) < 0 by decide, Nat.reduceSub, Nat.reduceLeDiff]
  refine XZ.abs2 (P := fun M => rP M0 M m 9 (fun _ => 0)) h8.nx (fun M9 h9 => ?_)
  rw [Nat.add_assoc m 9 1]
  refine XZ.runH 60 [85] ?_
  simp only [n79, t79, ↓xh, ↓xst, ↓xrunE, ↓rG, rL, rSt, updA, List.elem_nil, List.elem_cons, Nat.reduceBEq, Bool.false_eq_true, if_false, if_true, true_and, and_true, true_or, or_true, not_false_eq_true, Nat.reduceAdd, Nat.reduceSub, Nat.reduceLeDiff, Nat.reduceEqDiff, Nat.reduceLT, ↓reduceIte, List.length_cons, List.length_nil, List.set_cons_zero, List.set_cons_succ, Nat.le_refl, Nat.zero_le, Nat.zero_sub, Nat.sub_zero, List.nil_append, List.cons_append, Option.toList_some, Option.toList_none, eq_self, ↓h9.ob 10 (by decide), rFk_L, hb, show (rFk m 9 (fun _ => 0)).set 15 (.ref (m + 10)) = rFk m 10 (fun _ => 0) from rfl, show Int32.toNatClampNeg 48 = 48 by decide, show ¬ (48 : Int32) < 0 by decide, Nat.reduceSub, Nat.reduceLeDiff]
  refine XZ.abs2 (P := fun M => rP M0 M m 10 (fun _ => 0)) h9.nx (fun M10 h10 => ?_)
  rw [Nat.add_assoc m 10 1]
  refine XZ.runH 60 [93] ?_
  simp only [n79, t79, ↓xh, ↓xst, ↓xrunE, ↓rG, rL, rSt, updA, List.elem_nil, List.elem_cons, Nat.reduceBEq, Bool.false_eq_true, if_false, if_true, true_and, and_true, true_or, or_true, not_false_eq_true, Nat.reduceAdd, Nat.reduceSub, Nat.reduceLeDiff, Nat.reduceEqDiff, Nat.reduceLT, ↓reduceIte, List.length_cons, List.length_nil, List.set_cons_zero, List.set_cons_succ, Nat.le_refl, Nat.zero_le, Nat.zero_sub, Nat.sub_zero, List.nil_append, List.cons_append, Option.toList_some, Option.toList_none, eq_self, ↓h10.ob 11 (by decide), rFk_L, hb, show (rFk m 10 (fun _ => 0)).set 16 (.ref (m + 11)) = rFk m 11 (fun _ => 0) from rfl, show Int32.toNatClampNeg 48 = 48 by decide, show ¬ (48 : Int32) < 0 by decide, Nat.reduceSub, Nat.reduceLeDiff]
  refine XZ.abs2 (P := fun M => rP M0 M m 11 (fun _ => 0)) h10.nx (fun M11 h11 => ?_)
  rw [Nat.add_assoc m 11 1]
  refine XZ.runH 60 [101] ?_
  simp only [n79, t79, ↓xh, ↓xst, ↓xrunE, ↓rG, rL, rSt, updA, List.elem_nil, List.elem_cons, Nat.reduceBEq, Bool.false_eq_true, if_false, if_true, true_and, and_true, true_or, or_true, not_false_eq_true, Nat.reduceAdd, Nat.reduceSub, Nat.reduceLeDiff, Nat.reduceEqDiff, Nat.reduceLT, ↓reduceIte, List.length_cons, List.length_nil, List.set_cons_zero, List.set_cons_succ, Nat.le_refl, Nat.zero_le, Nat.zero_sub, Nat.sub_zero, List.nil_append, List.cons_append, Option.toList_some, Option.toList_none, eq_self, ↓h11.ob 12 (by decide), rFk_L, hb, show (rFk m 11 (fun _ => 0)).set 17 (.ref (m + 12)) = rFk m 12 (fun _ => 0) from rfl, show Int32.toNatClampNeg 48 = 48 by decide, show ¬ (48 : Int32) < 0 by decide, Nat.reduceSub, Nat.reduceLeDiff]
  refine XZ.abs2 (P := fun M => rP M0 M m 12 (fun _ => 0)) h11.nx (fun M12 h12 => ?_)
  rw [Nat.add_assoc m 12 1]
  refine XZ.runH 60 [109] ?_
  simp only [n79, t79, ↓xh, ↓xst, ↓xrunE, ↓rG, rL, rSt, updA, List.elem_nil, List.elem_cons, Nat.reduceBEq, Bool.false_eq_true, if_false, if_true, true_and, and_true, true_or, or_true, not_false_eq_true, Nat.reduceAdd, Nat.reduceSub, Nat.reduceLeDiff, Nat.reduceEqDiff, Nat.reduceLT, ↓reduceIte, List.length_cons, List.length_nil, List.set_cons_zero, List.set_cons_succ, Nat.le_refl, Nat.zero_le, Nat.zero_sub, Nat.sub_zero, List.nil_append, List.cons_append, Option.toList_some, Option.toList_none, eq_self, ↓h12.ob 13 (by decide), rFk_L, hb, show (rFk m 12 (fun _ => 0)).set 18 (.ref (m + 13)) = rFk m 13 (fun _ => 0) from rfl, show Int32.toNatClampNeg 48 = 48 by decide, show ¬ (48 : Int32) < 0 by decide, Nat.reduceSub, Nat.reduceLeDiff]
  refine XZ.abs2 (P := fun M => rP M0 M m 13 (fun _ => 0)) h12.nx (fun M13 h13 => ?_)
  rw [Nat.add_assoc m 13 1]
  refine XZ.runH 60 [117] ?_
  simp only [n79, t79, ↓xh, ↓xst, ↓xrunE, ↓rG, rL, rSt, updA, List.elem_nil, List.elem_cons, Nat.reduceBEq, Bool.false_eq_true, if_false, if_true, true_and, and_true, true_or, or_true, not_false_eq_true, Nat.reduceAdd, Nat.reduceSub, Nat.reduceLeDiff, Nat.reduceEqDiff, Nat.reduceLT, ↓reduceIte, List.length_cons, List.length_nil, List.set_cons_zero, List.set_cons_succ, Nat.le_refl, Nat.zero_le, Nat.zero_sub, Nat.sub_zero, List.nil_append, List.cons_append, Option.toList_some, Option.toList_none, eq_self, ↓h13.ob 14 (by decide), rFk_L, hb, show (rFk m 13 (fun _ => 0)).set 19 (.ref (m + 14)) = rFk m 14 (fun _ => 0) from rfl, show Int32.toNatClampNeg 48 = 48 by decide, show ¬ (48 : Int32) < 0 by decide, Nat.reduceSub, Nat.reduceLeDiff]
  refine XZ.abs2 (P := fun M => rP M0 M m 14 (fun _ => 0)) h13.nx (fun M14 h14 => ?_)
  rw [Nat.add_assoc m 14 1]
  refine XZ.runH 60 [125] ?_
  simp only [n79, t79, ↓xh, ↓xst, ↓xrunE, ↓rG, rL, rSt, updA, List.elem_nil, List.elem_cons, Nat.reduceBEq, Bool.false_eq_true, if_false, if_true, true_and, and_true, true_or, or_true, not_false_eq_true, Nat.reduceAdd, Nat.reduceSub, Nat.reduceLeDiff, Nat.reduceEqDiff, Nat.reduceLT, ↓reduceIte, List.length_cons, List.length_nil, List.set_cons_zero, List.set_cons_succ, Nat.le_refl, Nat.zero_le, Nat.zero_sub, Nat.sub_zero, List.nil_append, List.cons_append, Option.toList_some, Option.toList_none, eq_self, ↓h14.ob 15 (by decide), rFk_L, hb, show (rFk m 14 (fun _ => 0)).set 20 (.ref (m + 15)) = rFk m 15 (fun _ => 0) from rfl, show Int32.toNatClampNeg 48 = 48 by decide, show ¬ (48 : Int32) < 0 by decide, Nat.reduceSub, Nat.reduceLeDiff]
  refine XZ.abs2 (P := fun M => rP M0 M m 15 (fun _ => 0)) h14.nx (fun M15 h15 => ?_)
  rw [Nat.add_assoc m 15 1]
  refine XZ.runH 60 [133] ?_
  simp only [n79, t79, ↓xh, ↓xst, ↓xrunE, ↓rG, rL, rSt, updA, List.elem_nil, List.elem_cons, Nat.reduceBEq, Bool.false_eq_true, if_false, if_true, true_and, and_true, true_or, or_true, not_false_eq_true, Nat.reduceAdd, Nat.reduceSub, Nat.reduceLeDiff, Nat.reduceEqDiff, Nat.reduceLT, ↓reduceIte, List.length_cons, List.length_nil, List.set_cons_zero, List.set_cons_succ, Nat.le_refl, Nat.zero_le, Nat.zero_sub, Nat.sub_zero, List.nil_append, List.cons_append, Option.toList_some, Option.toList_none, eq_self, ↓h15.ob 16 (by decide), rFk_L, hb, show (rFk m 15 (fun _ => 0)).set 23 (.ref (m + 16)) = rFk m 16 (fun _ => 0) from rfl, show Int32.toNatClampNeg 16 = 16 by decide, show ¬ (16 : Int32) < 0 by decide, Nat.reduceSub, Nat.reduceLeDiff]
  refine XZ.abs2 (P := fun M => rP M0 M m 16 (fun _ => 0)) h15.nx (fun M16 h16 => ?_)
  rw [Nat.add_assoc m 16 1]
  refine XZ.runH 60 [141] ?_
  simp only [n79, t79, ↓xh, ↓xst, ↓xrunE, ↓rG, rL, rSt, updA, List.elem_nil, List.elem_cons, Nat.reduceBEq, Bool.false_eq_true, if_false, if_true, true_and, and_true, true_or, or_true, not_false_eq_true, Nat.reduceAdd, Nat.reduceSub, Nat.reduceLeDiff, Nat.reduceEqDiff, Nat.reduceLT, ↓reduceIte, List.length_cons, List.length_nil, List.set_cons_zero, List.set_cons_succ, Nat.le_refl, Nat.zero_le, Nat.zero_sub, Nat.sub_zero, List.nil_append, List.cons_append, Option.toList_some, Option.toList_none, eq_self, ↓h16.ob 17 (by decide), rFk_L, hb, show (rFk m 16 (fun _ => 0)).set 24 (.ref (m + 17)) = rFk m 17 (fun _ => 0) from rfl, show Int32.toNatClampNeg 16 = 16 by decide, show ¬ (16 : Int32) < 0 by decide, Nat.reduceSub, Nat.reduceLeDiff]
  refine XZ.abs2 (P := fun M => rP M0 M m 17 (fun _ => 0)) h16.nx (fun M17 h17 => ?_)
  rw [Nat.add_assoc m 17 1]
  refine XZ.runH 60 [149] ?_
  simp only [n79, t79, ↓xh, ↓xst, ↓xrunE, ↓rG, rL, rSt, updA, List.elem_nil, List.elem_cons, Nat.reduceBEq, Bool.false_eq_true, if_false, if_true, true_and, and_true, true_or, or_true, not_false_eq_true, Nat.reduceAdd, Nat.reduceSub, Nat.reduceLeDiff, Nat.reduceEqDiff, Nat.reduceLT, ↓reduceIte, List.length_cons, List.length_nil, List.set_cons_zero, List.set_cons_succ, Nat.le_refl, Nat.zero_le, Nat.zero_sub, Nat.sub_zero, List.nil_append, List.cons_append, Option.toList_some, Option.toList_none, eq_self, ↓h17.ob 18 (by decide), rFk_L, hb, show (rFk m 17 (fun _ => 0)).set 25 (.ref (m + 18)) = rFk m 18 (fun _ => 0) from rfl, show Int32.toNatClampNeg 64 = 64 by decide, show ¬ (64 : Int32) < 0 by decide, Nat.reduceSub, Nat.reduceLeDiff]
  refine XZ.abs2 (P := fun M => rP M0 M m 18 (fun _ => 0)) h17.nx (fun M18 h18 => ?_)
  rw [Nat.add_assoc m 18 1]
  refine XZ.runH 60 [157] ?_
  simp only [n79, t79, ↓xh, ↓xst, ↓xrunE, ↓rG, rL, rSt, updA, List.elem_nil, List.elem_cons, Nat.reduceBEq, Bool.false_eq_true, if_false, if_true, true_and, and_true, true_or, or_true, not_false_eq_true, Nat.reduceAdd, Nat.reduceSub, Nat.reduceLeDiff, Nat.reduceEqDiff, Nat.reduceLT, ↓reduceIte, List.length_cons, List.length_nil, List.set_cons_zero, List.set_cons_succ, Nat.le_refl, Nat.zero_le, Nat.zero_sub, Nat.sub_zero, List.nil_append, List.cons_append, Option.toList_some, Option.toList_none, eq_self, ↓h18.ob 19 (by decide), rFk_L, hb, show (rFk m 18 (fun _ => 0)).set 26 (.ref (m + 19)) = rFk m 19 (fun _ => 0) from rfl, show Int32.toNatClampNeg 16 = 16 by decide, show ¬ (16 : Int32) < 0 by decide, Nat.reduceSub, Nat.reduceLeDiff]
  refine XZ.abs2 (P := fun M => rP M0 M m 19 (fun _ => 0)) h18.nx (fun M19 h19 => ?_)
  rw [Nat.add_assoc m 19 1]
  refine XZ.runH 60 [165] ?_
  simp only [n79, t79, ↓xh, ↓xst, ↓xrunE, ↓rG, rL, rSt, updA, List.elem_nil, List.elem_cons, Nat.reduceBEq, Bool.false_eq_true, if_false, if_true, true_and, and_true, true_or, or_true, not_false_eq_true, Nat.reduceAdd, Nat.reduceSub, Nat.reduceLeDiff, Nat.reduceEqDiff, Nat.reduceLT, ↓reduceIte, List.length_cons, List.length_nil, List.set_cons_zero, List.set_cons_succ, Nat.le_refl, Nat.zero_le, Nat.zero_sub, Nat.sub_zero, List.nil_append, List.cons_append, Option.toList_some, Option.toList_none, eq_self, ↓h19.ob 20 (by decide), rFk_L, hb, show (rFk m 19 (fun _ => 0)).set 27 (.ref (m + 20)) = rFk m 20 (fun _ => 0) from rfl, show Int32.toNatClampNeg 16 = 16 by decide, show ¬ (16 : Int32) < 0 by decide, Nat.reduceSub, Nat.reduceLeDiff]
  refine XZ.abs2 (P := fun M => rP M0 M m 20 (fun _ => 0)) h19.nx (fun M20 h20 => ?_)
  rw [Nat.add_assoc m 20 1]
  refine XZ.runH 60 [174] ?_
  simp only [n79, t79, ↓xh, ↓xst, ↓xrunE, ↓rG, rL, rSt, updA, List.elem_nil, List.elem_cons, Nat.reduceBEq, Bool.false_eq_true, if_false, if_true, true_and, and_true, true_or, or_true, not_false_eq_true, Nat.reduceAdd, Nat.reduceSub, Nat.reduceLeDiff, Nat.reduceEqDiff, Nat.reduceLT, ↓reduceIte, List.length_cons, List.length_nil, List.set_cons_zero, List.set_cons_succ, Nat.le_refl, Nat.zero_le, Nat.zero_sub, Nat.sub_zero, List.nil_append, List.cons_append, Option.toList_some, Option.toList_none, eq_self, ↓h20.ob 21 (by decide), rFk_L, hb, show (rFk m 20 (fun _ => 0)).set 28 (.ref (m + 21)) = rFk m 21 (fun _ => 0) from rfl, show Int32.toNatClampNeg 128 = 128 by decide, show ¬ (128 : Int32) < 0 by decide, Nat.reduceSub, Nat.reduceLeDiff]
  refine XZ.abs2 (P := fun M => rP M0 M m 21 (fun _ => 0)) h20.nx (fun M21 h21 => ?_)
  rw [Nat.add_assoc m 21 1]
  refine XZ.runH 60 [183] ?_
  simp only [n79, t79, ↓xh, ↓xst, ↓xrunE, ↓rG, rL, rSt, updA, List.elem_nil, List.elem_cons, Nat.reduceBEq, Bool.false_eq_true, if_false, if_true, true_and, and_true, true_or, or_true, not_false_eq_true, Nat.reduceAdd, Nat.reduceSub, Nat.reduceLeDiff, Nat.reduceEqDiff, Nat.reduceLT, ↓reduceIte, List.length_cons, List.length_nil, List.set_cons_zero, List.set_cons_succ, Nat.le_refl, Nat.zero_le, Nat.zero_sub, Nat.sub_zero, List.nil_append, List.cons_append, Option.toList_some, Option.toList_none, eq_self, ↓h21.ob 22 (by decide), rFk_L, hb, show (rFk m 21 (fun _ => 0)).set 29 (.ref (m + 22)) = rFk m 22 (fun _ => 0) from rfl, show Int32.toNatClampNeg 128 = 128 by decide, show ¬ (128 : Int32) < 0 by decide, Nat.reduceSub, Nat.reduceLeDiff]
  refine XZ.abs2 (P := fun M => rP M0 M m 22 (fun _ => 0)) h21.nx (fun M22 h22 => ?_)
  rw [Nat.add_assoc m 22 1]
  refine XZ.runH 60 [192] ?_
  simp only [n79, t79, ↓xh, ↓xst, ↓xrunE, ↓rG, rL, rSt, updA, List.elem_nil, List.elem_cons, Nat.reduceBEq, Bool.false_eq_true, if_false, if_true, true_and, and_true, true_or, or_true, not_false_eq_true, Nat.reduceAdd, Nat.reduceSub, Nat.reduceLeDiff, Nat.reduceEqDiff, Nat.reduceLT, ↓reduceIte, List.length_cons, List.length_nil, List.set_cons_zero, List.set_cons_succ, Nat.le_refl, Nat.zero_le, Nat.zero_sub, Nat.sub_zero, List.nil_append, List.cons_append, Option.toList_some, Option.toList_none, eq_self, ↓h22.ob 23 (by decide), rFk_L, hb, show (rFk m 22 (fun _ => 0)).set 30 (.ref (m + 23)) = rFk m 23 (fun _ => 0) from rfl, show Int32.toNatClampNeg 128 = 128 by decide, show ¬ (128 : Int32) < 0 by decide, Nat.reduceSub, Nat.reduceLeDiff]
  refine XZ.abs2 (P := fun M => rP M0 M m 23 (fun _ => 0)) h22.nx (fun M23 h23 => ?_)
  rw [Nat.add_assoc m 23 1]
  refine XZ.runH 60 [201] ?_
  simp only [n79, t79, ↓xh, ↓xst, ↓xrunE, ↓rG, rL, rSt, updA, List.elem_nil, List.elem_cons, Nat.reduceBEq, Bool.false_eq_true, if_false, if_true, true_and, and_true, true_or, or_true, not_false_eq_true, Nat.reduceAdd, Nat.reduceSub, Nat.reduceLeDiff, Nat.reduceEqDiff, Nat.reduceLT, ↓reduceIte, List.length_cons, List.length_nil, List.set_cons_zero, List.set_cons_succ, Nat.le_refl, Nat.zero_le, Nat.zero_sub, Nat.sub_zero, List.nil_append, List.cons_append, Option.toList_some, Option.toList_none, eq_self, ↓h23.ob 24 (by decide), rFk_L, hb, show (rFk m 23 (fun _ => 0)).set 31 (.ref (m + 24)) = rFk m 24 (fun _ => 0) from rfl, show Int32.toNatClampNeg 128 = 128 by decide, show ¬ (128 : Int32) < 0 by decide, Nat.reduceSub, Nat.reduceLeDiff]
  refine XZ.abs2 (P := fun M => rP M0 M m 24 (fun _ => 0)) h23.nx (fun M24 h24 => ?_)
  rw [Nat.add_assoc m 24 1]
  refine XZ.runH 60 [209] ?_
  simp only [n79, t79, ↓xh, ↓xst, ↓xrunE, ↓rG, rL, rSt, updA, List.elem_nil, List.elem_cons, Nat.reduceBEq, Bool.false_eq_true, if_false, if_true, true_and, and_true, true_or, or_true, not_false_eq_true, Nat.reduceAdd, Nat.reduceSub, Nat.reduceLeDiff, Nat.reduceEqDiff, Nat.reduceLT, ↓reduceIte, List.length_cons, List.length_nil, List.set_cons_zero, List.set_cons_succ, Nat.le_refl, Nat.zero_le, Nat.zero_sub, Nat.sub_zero, List.nil_append, List.cons_append, Option.toList_some, Option.toList_none, eq_self, ↓h24.ob 25 (by decide), rFk_L, hb, show (rFk m 24 (fun _ => 0)).set 32 (.ref (m + 25)) = rFk m 25 (fun _ => 0) from rfl, show Int32.toNatClampNeg 16 = 16 by decide, show ¬ (16 : Int32) < 0 by decide, Nat.reduceSub, Nat.reduceLeDiff]
  refine XZ.abs2 (P := fun M => rP M0 M m 25 (fun _ => 0)) h24.nx (fun M25 h25 => ?_)
  rw [Nat.add_assoc m 25 1]
  refine XZ.runH 60 [217] ?_
  simp only [n79, t79, ↓xh, ↓xst, ↓xrunE, ↓rG, rL, rSt, updA, List.elem_nil, List.elem_cons, Nat.reduceBEq, Bool.false_eq_true, if_false, if_true, true_and, and_true, true_or, or_true, not_false_eq_true, Nat.reduceAdd, Nat.reduceSub, Nat.reduceLeDiff, Nat.reduceEqDiff, Nat.reduceLT, ↓reduceIte, List.length_cons, List.length_nil, List.set_cons_zero, List.set_cons_succ, Nat.le_refl, Nat.zero_le, Nat.zero_sub, Nat.sub_zero, List.nil_append, List.cons_append, Option.toList_some, Option.toList_none, eq_self, ↓h25.ob 26 (by decide), rFk_L, hb, show (rFk m 25 (fun _ => 0)).set 35 (.ref (m + 26)) = rFk m 26 (fun _ => 0) from rfl, show Int32.toNatClampNeg 12 = 12 by decide, show ¬ (12 : Int32) < 0 by decide, Nat.reduceSub, Nat.reduceLeDiff]
  refine XZ.abs2 (P := fun M => rP M0 M m 26 (fun _ => 0)) h25.nx (fun M26 h26 => ?_)
  rw [Nat.add_assoc m 26 1]
  refine XZ.runH 60 [225] ?_
  simp only [n79, t79, ↓xh, ↓xst, ↓xrunE, ↓rG, rL, rSt, updA, List.elem_nil, List.elem_cons, Nat.reduceBEq, Bool.false_eq_true, if_false, if_true, true_and, and_true, true_or, or_true, not_false_eq_true, Nat.reduceAdd, Nat.reduceSub, Nat.reduceLeDiff, Nat.reduceEqDiff, Nat.reduceLT, ↓reduceIte, List.length_cons, List.length_nil, List.set_cons_zero, List.set_cons_succ, Nat.le_refl, Nat.zero_le, Nat.zero_sub, Nat.sub_zero, List.nil_append, List.cons_append, Option.toList_some, Option.toList_none, eq_self, ↓h26.ob 27 (by decide), rFk_L, hb, show (rFk m 26 (fun _ => 0)).set 36 (.ref (m + 27)) = rFk m 27 (fun _ => 0) from rfl, show Int32.toNatClampNeg 12 = 12 by decide, show ¬ (12 : Int32) < 0 by decide, Nat.reduceSub, Nat.reduceLeDiff]
  refine XZ.abs2 (P := fun M => rP M0 M m 27 (fun _ => 0)) h26.nx (fun M27 h27 => ?_)
  rw [Nat.add_assoc m 27 1]
  refine XZ.runH 60 [233] ?_
  simp only [n79, t79, ↓xh, ↓xst, ↓xrunE, ↓rG, rL, rSt, updA, List.elem_nil, List.elem_cons, Nat.reduceBEq, Bool.false_eq_true, if_false, if_true, true_and, and_true, true_or, or_true, not_false_eq_true, Nat.reduceAdd, Nat.reduceSub, Nat.reduceLeDiff, Nat.reduceEqDiff, Nat.reduceLT, ↓reduceIte, List.length_cons, List.length_nil, List.set_cons_zero, List.set_cons_succ, Nat.le_refl, Nat.zero_le, Nat.zero_sub, Nat.sub_zero, List.nil_append, List.cons_append, Option.toList_some, Option.toList_none, eq_self, ↓h27.ob 28 (by decide), rFk_L, hb, show (rFk m 27 (fun _ => 0)).set 37 (.ref (m + 28)) = rFk m 28 (fun _ => 0) from rfl, show Int32.toNatClampNeg 12 = 12 by decide, show ¬ (12 : Int32) < 0 by decide, Nat.reduceSub, Nat.reduceLeDiff]
  refine XZ.abs2 (P := fun M => rP M0 M m 28 (fun _ => 0)) h27.nx (fun M28 h28 => ?_)
  rw [Nat.add_assoc m 28 1]
  refine XZ.runH 60 [241] ?_
  simp only [n79, t79, ↓xh, ↓xst, ↓xrunE, ↓rG, rL, rSt, updA, List.elem_nil, List.elem_cons, Nat.reduceBEq, Bool.false_eq_true, if_false, if_true, true_and, and_true, true_or, or_true, not_false_eq_true, Nat.reduceAdd, Nat.reduceSub, Nat.reduceLeDiff, Nat.reduceEqDiff, Nat.reduceLT, ↓reduceIte, List.length_cons, List.length_nil, List.set_cons_zero, List.set_cons_succ, Nat.le_refl, Nat.zero_le, Nat.zero_sub, Nat.sub_zero, List.nil_append, List.cons_append, Option.toList_some, Option.toList_none, eq_self, ↓h28.ob 29 (by decide), rFk_L, hb, show (rFk m 28 (fun _ => 0)).set 38 (.ref (m + 29)) = rFk m 29 (fun _ => 0) from rfl, show Int32.toNatClampNeg 12 = 12 by decide, show ¬ (12 : Int32) < 0 by decide, Nat.reduceSub, Nat.reduceLeDiff]
  refine XZ.abs2 (P := fun M => rP M0 M m 29 (fun _ => 0)) h28.nx (fun M29 h29 => ?_)
  rw [Nat.add_assoc m 29 1]
  refine XZ.runH 60 [249] ?_
  simp only [n79, t79, ↓xh, ↓xst, ↓xrunE, ↓rG, rL, rSt, updA, List.elem_nil, List.elem_cons, Nat.reduceBEq, Bool.false_eq_true, if_false, if_true, true_and, and_true, true_or, or_true, not_false_eq_true, Nat.reduceAdd, Nat.reduceSub, Nat.reduceLeDiff, Nat.reduceEqDiff, Nat.reduceLT, ↓reduceIte, List.length_cons, List.length_nil, List.set_cons_zero, List.set_cons_succ, Nat.le_refl, Nat.zero_le, Nat.zero_sub, Nat.sub_zero, List.nil_append, List.cons_append, Option.toList_some, Option.toList_none, eq_self, ↓h29.ob 30 (by decide), rFk_L, hb, show (rFk m 29 (fun _ => 0)).set 39 (.ref (m + 30)) = rFk m 30 (fun _ => 0) from rfl, show Int32.toNatClampNeg 12 = 12 by decide, show ¬ (12 : Int32) < 0 by decide, Nat.reduceSub, Nat.reduceLeDiff]
  refine XZ.abs2 (P := fun M => rP M0 M m 30 (fun _ => 0)) h29.nx (fun M30 h30 => ?_)
  rw [Nat.add_assoc m 30 1]
  refine XZ.runH 60 [257] ?_
  simp only [n79, t79, ↓xh, ↓xst, ↓xrunE, ↓rG, rL, rSt, updA, List.elem_nil, List.elem_cons, Nat.reduceBEq, Bool.false_eq_true, if_false, if_true, true_and, and_true, true_or, or_true, not_false_eq_true, Nat.reduceAdd, Nat.reduceSub, Nat.reduceLeDiff, Nat.reduceEqDiff, Nat.reduceLT, ↓reduceIte, List.length_cons, List.length_nil, List.set_cons_zero, List.set_cons_succ, Nat.le_refl, Nat.zero_le, Nat.zero_sub, Nat.sub_zero, List.nil_append, List.cons_append, Option.toList_some, Option.toList_none, eq_self, ↓h30.ob 31 (by decide), rFk_L, hb, show (rFk m 30 (fun _ => 0)).set 40 (.ref (m + 31)) = rFk m 31 (fun _ => 0) from rfl, show Int32.toNatClampNeg 12 = 12 by decide, show ¬ (12 : Int32) < 0 by decide, Nat.reduceSub, Nat.reduceLeDiff]
  refine XZ.abs2 (P := fun M => rP M0 M m 31 (fun _ => 0)) h30.nx (fun M31 h31 => ?_)
  rw [Nat.add_assoc m 31 1]
  refine XZ.runH 60 [265] ?_
  simp only [n79, t79, ↓xh, ↓xst, ↓xrunE, ↓rG, rL, rSt, updA, List.elem_nil, List.elem_cons, Nat.reduceBEq, Bool.false_eq_true, if_false, if_true, true_and, and_true, true_or, or_true, not_false_eq_true, Nat.reduceAdd, Nat.reduceSub, Nat.reduceLeDiff, Nat.reduceEqDiff, Nat.reduceLT, ↓reduceIte, List.length_cons, List.length_nil, List.set_cons_zero, List.set_cons_succ, Nat.le_refl, Nat.zero_le, Nat.zero_sub, Nat.sub_zero, List.nil_append, List.cons_append, Option.toList_some, Option.toList_none, eq_self, ↓h31.ob 32 (by decide), rFk_L, hb, show (rFk m 31 (fun _ => 0)).set 41 (.ref (m + 32)) = rFk m 32 (fun _ => 0) from rfl, show Int32.toNatClampNeg 12 = 12 by decide, show ¬ (12 : Int32) < 0 by decide, Nat.reduceSub, Nat.reduceLeDiff]
  refine XZ.abs2 (P := fun M => rP M0 M m 32 (fun _ => 0)) h31.nx (fun M32 h32 => ?_)
  rw [Nat.add_assoc m 32 1]
  refine XZ.runH 60 [273] ?_
  simp only [n79, t79, ↓xh, ↓xst, ↓xrunE, ↓rG, rL, rSt, updA, List.elem_nil, List.elem_cons, Nat.reduceBEq, Bool.false_eq_true, if_false, if_true, true_and, and_true, true_or, or_true, not_false_eq_true, Nat.reduceAdd, Nat.reduceSub, Nat.reduceLeDiff, Nat.reduceEqDiff, Nat.reduceLT, ↓reduceIte, List.length_cons, List.length_nil, List.set_cons_zero, List.set_cons_succ, Nat.le_refl, Nat.zero_le, Nat.zero_sub, Nat.sub_zero, List.nil_append, List.cons_append, Option.toList_some, Option.toList_none, eq_self, ↓h32.ob 33 (by decide), rFk_L, hb, show (rFk m 32 (fun _ => 0)).set 42 (.ref (m + 33)) = rFk m 33 (fun _ => 0) from rfl, show Int32.toNatClampNeg 12 = 12 by decide, show ¬ (12 : Int32) < 0 by decide, Nat.reduceSub, Nat.reduceLeDiff]
  refine XZ.abs2 (P := fun M => rP M0 M m 33 (fun _ => 0)) h32.nx (fun M33 h33 => ?_)
  rw [Nat.add_assoc m 33 1]
  refine XZ.runH 60 [281] ?_
  simp only [n79, t79, ↓xh, ↓xst, ↓xrunE, ↓rG, rL, rSt, updA, List.elem_nil, List.elem_cons, Nat.reduceBEq, Bool.false_eq_true, if_false, if_true, true_and, and_true, true_or, or_true, not_false_eq_true, Nat.reduceAdd, Nat.reduceSub, Nat.reduceLeDiff, Nat.reduceEqDiff, Nat.reduceLT, ↓reduceIte, List.length_cons, List.length_nil, List.set_cons_zero, List.set_cons_succ, Nat.le_refl, Nat.zero_le, Nat.zero_sub, Nat.sub_zero, List.nil_append, List.cons_append, Option.toList_some, Option.toList_none, eq_self, ↓h33.ob 34 (by decide), rFk_L, hb, show (rFk m 33 (fun _ => 0)).set 43 (.ref (m + 34)) = rFk m 34 (fun _ => 0) from rfl, show Int32.toNatClampNeg 12 = 12 by decide, show ¬ (12 : Int32) < 0 by decide, Nat.reduceSub, Nat.reduceLeDiff]
  refine XZ.abs2 (P := fun M => rP M0 M m 34 (fun _ => 0)) h33.nx (fun M34 h34 => ?_)
  rw [Nat.add_assoc m 34 1]
  refine XZ.runH 60 [289] ?_
  simp only [n79, t79, ↓xh, ↓xst, ↓xrunE, ↓rG, rL, rSt, updA, List.elem_nil, List.elem_cons, Nat.reduceBEq, Bool.false_eq_true, if_false, if_true, true_and, and_true, true_or, or_true, not_false_eq_true, Nat.reduceAdd, Nat.reduceSub, Nat.reduceLeDiff, Nat.reduceEqDiff, Nat.reduceLT, ↓reduceIte, List.length_cons, List.length_nil, List.set_cons_zero, List.set_cons_succ, Nat.le_refl, Nat.zero_le, Nat.zero_sub, Nat.sub_zero, List.nil_append, List.cons_append, Option.toList_some, Option.toList_none, eq_self, ↓h34.ob 35 (by decide), rFk_L, hb, show (rFk m 34 (fun _ => 0)).set 44 (.ref (m + 35)) = rFk m 35 (fun _ => 0) from rfl, show Int32.toNatClampNeg 12 = 12 by decide, show ¬ (12 : Int32) < 0 by decide, Nat.reduceSub, Nat.reduceLeDiff]
  refine XZ.abs2 (P := fun M => rP M0 M m 35 (fun _ => 0)) h34.nx (fun M35 h35 => ?_)
  rw [Nat.add_assoc m 35 1]
  refine XZ.runH 60 [297] ?_
  simp only [n79, t79, ↓xh, ↓xst, ↓xrunE, ↓rG, rL, rSt, updA, List.elem_nil, List.elem_cons, Nat.reduceBEq, Bool.false_eq_true, if_false, if_true, true_and, and_true, true_or, or_true, not_false_eq_true, Nat.reduceAdd, Nat.reduceSub, Nat.reduceLeDiff, Nat.reduceEqDiff, Nat.reduceLT, ↓reduceIte, List.length_cons, List.length_nil, List.set_cons_zero, List.set_cons_succ, Nat.le_refl, Nat.zero_le, Nat.zero_sub, Nat.sub_zero, List.nil_append, List.cons_append, Option.toList_some, Option.toList_none, eq_self, ↓h35.ob 36 (by decide), rFk_L, hb, show (rFk m 35 (fun _ => 0)).set 45 (.ref (m + 36)) = rFk m 36 (fun _ => 0) from rfl, show Int32.toNatClampNeg 12 = 12 by decide, show ¬ (12 : Int32) < 0 by decide, Nat.reduceSub, Nat.reduceLeDiff]
  refine XZ.abs2 (P := fun M => rP M0 M m 36 (fun _ => 0)) h35.nx (fun M36 h36 => ?_)
  rw [Nat.add_assoc m 36 1]
  refine XZ.runH 60 [305] ?_
  simp only [n79, t79, ↓xh, ↓xst, ↓xrunE, ↓rG, rL, rSt, updA, List.elem_nil, List.elem_cons, Nat.reduceBEq, Bool.false_eq_true, if_false, if_true, true_and, and_true, true_or, or_true, not_false_eq_true, Nat.reduceAdd, Nat.reduceSub, Nat.reduceLeDiff, Nat.reduceEqDiff, Nat.reduceLT, ↓reduceIte, List.length_cons, List.length_nil, List.set_cons_zero, List.set_cons_succ, Nat.le_refl, Nat.zero_le, Nat.zero_sub, Nat.sub_zero, List.nil_append, List.cons_append, Option.toList_some, Option.toList_none, eq_self, ↓h36.ob 37 (by decide), rFk_L, hb, show (rFk m 36 (fun _ => 0)).set 46 (.ref (m + 37)) = rFk m 37 (fun _ => 0) from rfl, show Int32.toNatClampNeg 12 = 12 by decide, show ¬ (12 : Int32) < 0 by decide, Nat.reduceSub, Nat.reduceLeDiff]
  refine XZ.abs2 (P := fun M => rP M0 M m 37 (fun _ => 0)) h36.nx (fun M37 h37 => ?_)
  rw [Nat.add_assoc m 37 1]
  have g0 := h37.rR
  refine XZ.runH 60 [314] ?_
  simp only [n79, t79, ↓xh, ↓xst, ↓xrunE, ↓rG, rL, rSt, updA, List.elem_nil, List.elem_cons, Nat.reduceBEq, Bool.false_eq_true, if_false, if_true, true_and, and_true, true_or, or_true, not_false_eq_true, Nat.reduceAdd, Nat.reduceSub, Nat.reduceLeDiff, Nat.reduceEqDiff, Nat.reduceLT, ↓reduceIte, List.length_cons, List.length_nil, List.set_cons_zero, List.set_cons_succ, Nat.le_refl, Nat.zero_le, Nat.zero_sub, Nat.sub_zero, List.nil_append, List.cons_append, Option.toList_some, Option.toList_none, eq_self, ↓rO1 g0.1, hb]
  refine XZ.abs g0.fl (fun N1 g1 => ?_)
  refine XZ.runH 60 [323] ?_
  simp only [n79, t79, ↓xh, ↓xst, ↓xrunE, ↓rG, rL, rSt, updA, List.elem_nil, List.elem_cons, Nat.reduceBEq, Bool.false_eq_true, if_false, if_true, true_and, and_true, true_or, or_true, not_false_eq_true, Nat.reduceAdd, Nat.reduceSub, Nat.reduceLeDiff, Nat.reduceEqDiff, Nat.reduceLT, ↓reduceIte, List.length_cons, List.length_nil, List.set_cons_zero, List.set_cons_succ, Nat.le_refl, Nat.zero_le, Nat.zero_sub, Nat.sub_zero, List.nil_append, List.cons_append, Option.toList_some, Option.toList_none, eq_self, ↓rO1 g1.1, hb]
  refine XZ.abs g1.fl (fun N2 g2 => ?_)
  refine XZ.runH 60 [333] ?_
  simp only [n79, t79, ↓xh, ↓xst, ↓xrunE, ↓rG, rL, rSt, updA, List.elem_nil, List.elem_cons, Nat.reduceBEq, Bool.false_eq_true, if_false, if_true, true_and, and_true, true_or, or_true, not_false_eq_true, Nat.reduceAdd, Nat.reduceSub, Nat.reduceLeDiff, Nat.reduceEqDiff, Nat.reduceLT, ↓reduceIte, List.length_cons, List.length_nil, List.set_cons_zero, List.set_cons_succ, Nat.le_refl, Nat.zero_le, Nat.zero_sub, Nat.sub_zero, List.nil_append, List.cons_append, Option.toList_some, Option.toList_none, eq_self, ↓rO1 g2.1, hb]
  refine XZ.abs g2.fl (fun N3 g3 => ?_)
  refine XZ.runH 60 [336] ?_
  simp only [n79, t79, ↓xh, ↓xst, ↓xrunE, ↓rG, rL, rSt, updA, List.elem_nil, List.elem_cons, Nat.reduceBEq, Bool.false_eq_true, if_false, if_true, true_and, and_true, true_or, or_true, not_false_eq_true, Nat.reduceAdd, Nat.reduceSub, Nat.reduceLeDiff, Nat.reduceEqDiff, Nat.reduceLT, ↓reduceIte, List.length_cons, List.length_nil, List.set_cons_zero, List.set_cons_succ, Nat.le_refl, Nat.zero_le, Nat.zero_sub, Nat.sub_zero, List.nil_append, List.cons_append, Option.toList_some, Option.toList_none, eq_self]
  exact rl79 hb rfl hq 48 0 N3 (by omega) (g3.to (rPt_0 _ _ _).symm)
