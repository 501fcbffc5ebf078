/-! THE LAW -/
def swt (x : Int32) (d : Nat) : List (Int32 × Nat) → Nat
  | [] => d
  | q :: r => if x = q.1 then q.2 else swt x d r
theorem xsw_t (x : Int32) (d : Nat) (P : Nat → Prop) : ∀ l, xsw x d P l = P (swt x d l)
  | [] => rfl
  | q :: r => by
    unfold xsw swt
    split
    · rfl
    · exact xsw_t x d P r
/-- between two calls of the law -/
def LW (E : xE) (b L : Nat) (xs : Nat → Int32) (m nx : Nat) (M : xM) (c : Nat) (s : rS) (T : Nat) : Prop := ∃ A v, A 0 0 = c ∧ cW E nx M A v s ∧ rRep M m s ∧ (xb E ≤ m ∧ m + 37 < nx ∧ ∀ q, m ≤ q → q ≤ m + 37 → ¬ ccl A q) ∧ nX E M ∧ (M b = some (.inr (0, L, fun k => .int (xs k))) ∧ b < xb E) ∧ ∃ T', T' ≤ T ∧ s.1 21 = nI T'
theorem LW.st {E : xE} {b L m nx nx' c T2 : Nat} {xs : Nat → Int32} {M M1 M2 : xM} {A A' : cA} {v v' : cV} {s s' : rS} (a0 : A 0 0 = c) (h : cW E nx M A v s) (rr : rRep M m s) (hm : xb E ≤ m ∧ m + 37 < nx ∧ ∀ q, m ≤ q → q ≤ m + 37 → ¬ ccl A q) (he : nX E M) (hs : M b = some (.inr (0, L, fun k => .int (xs k))) ∧ b < xb E) (hn : nx ≤ nx') (a1 : A' 0 0 = A 0 0) (w' : cW E nx' M1 A' v' s') (f : ∀ q, q < nx → ¬ ccl A q → M1 q = M q) (bk : ∀ q, q < nx → ccl A' q → ccl A q) (r2 : rR M1 M2 m s') (hT : ∃ T', T' ≤ T2 ∧ s'.1 21 = nI T') : LW E b L xs m nx' M2 c s' T2 := by
  have rr1 : rRep M1 m s := by
    refine ⟨by rw [f m (by omega) (hm.2.2 m (by omega) (by omega))]; exact rr.1, fun j h1 h2 => ?_⟩
    rw [f (m + j) (by omega) (hm.2.2 _ (by omega) (by omega))]
    exact rr.2 j h1 h2
  have nc' : ∀ q, m ≤ q → q ≤ m + 37 → ¬ ccl A' q := fun q h1 h2 z => hm.2.2 q h1 h2 (bk q (by omega) z)
  have lo : ∀ q, q < xb E → M2 q = M q := fun q hq => by
    rw [r2.2 q (by omega)]
    exact f q (h.lo hq).1 (h.lo hq).2
  exact ⟨A', v', a1.trans a0, w'.ref rr1 nc' r2.2, r2.1, ⟨hm.1, by omega, nc'⟩, he.mv lo, ⟨by rw [lo b hs.2]; exact hs.1, hs.2⟩, hT⟩
theorem rep_mv {M M1 : xM} {A : cA} {m nx : Nat} {s : rS} (rr : rRep M m s) (hm : m + 37 < nx ∧ ∀ q, m ≤ q → q ≤ m + 37 → ¬ ccl A q) (f : ∀ q, q < nx → ¬ ccl A q → M1 q = M q) : rR M1 M1 m s := by
  refine rR.rf ⟨by rw [f m (by omega) (hm.2 m (by omega) (by omega))]; exact rr.1, fun j h1 h2 => ?_⟩
  rw [f (m + j) (by omega) (hm.2 _ (by omega) (by omega))]
  exact rr.2 j h1 h2
section LAW
variable {E : xE} {b L m c : Nat} {xs : Nat → Int32} {Q : Option Value → xM → Nat → Prop}
set_option maxRecDepth 100000 in
set_option maxHeartbeats 4000000 in
theorem lc1 {i nx : Nat} {M : xM} {Q' : Option Value → xM → Nat → Prop} (hs : M b = some (.inr (0, L, fun k => .int (xs k)))) (hL : L ≤ 2563) (hi : i < 2563) (hq : Q' (some (.int (if i < L then xs i else 0))) M nx) : XC E 1 [.ref b, .int (nI i)] M nx Q' := by
  have sc : ∀ P, xarr M b P = P 0 L (fun k => .int (xs k)) := fun P => xhar hs
  refine XC.run 60 [] ?_
  by_cases h : i < L
  · rw [if_pos h] at hq
    have e := eF (nI_ge h (show L < 2 ^ 31 by omega))
    have ii := nIx h (by omega)
    simp only [n1, t1, ↓xh, ↓xst, ↓xrunE, ↓rG, rL, rSt, updA, List.elem_nil, List.elem_cons, Nat.reduceBEq, Bool.false_eq_true, if_false, if_true, true_and, and_true, true_or, or_true, not_false_eq_true, Nat.reduceAdd, Nat.reduceSub, Nat.reduceLeDiff, Nat.reduceEqDiff, Nat.reduceLT, ↓reduceIte, List.length_cons, List.length_nil, List.set_cons_zero, List.set_cons_succ, Nat.le_refl, Nat.zero_le, Nat.zero_sub, Nat.sub_zero, List.nil_append, List.cons_append, Option.toList_some, Option.toList_none, eq_self, ↓sc, ofN, e, ii]
    exact hq
  · rw [if_neg h] at hq
    have e := eT (nI_le (show L ≤ i by omega) (show i < 2 ^ 31 by omega))
    simp only [n1, t1, ↓xh, ↓xst, ↓xrunE, ↓rG, rL, rSt, updA, List.elem_nil, List.elem_cons, Nat.reduceBEq, Bool.false_eq_true, if_false, if_true, true_and, and_true, true_or, or_true, not_false_eq_true, Nat.reduceAdd, Nat.reduceSub, Nat.reduceLeDiff, Nat.reduceEqDiff, Nat.reduceLT, ↓reduceIte, List.length_cons, List.length_nil, List.set_cons_zero, List.set_cons_succ, Nat.le_refl, Nat.zero_le, Nat.zero_sub, Nat.sub_zero, List.nil_append, List.cons_append, Option.toList_some, Option.toList_none, eq_self, ↓sc, ofN, e]
    exact hq
theorem e21W (s : rS) (Z : Nat) (y : Int32) : (rWrite s Z y).2.1 21 = s.1 21 := by
  unfold rWrite
  split <;> simp [upd]
theorem e21N (s : rS) (N Z : Nat) : (rNet s N Z).2.1 21 = s.1 21 := by
  unfold rNet
  split <;> simp [upd]
theorem e21R (s : rS) (R N : Nat) (x : Int32) : (rRouter s R N x).2.1 21 = s.1 21 := by
  unfold rRouter
  split
  · rfl
  · split
    · rfl
    · simp [upd]
theorem e21P (s : rS) (R : Nat) (x y : Int32) : (rPower s R x y).2.1 21 = s.1 21 := by
  unfold rPower
  split <;> rfl
theorem e21D (s : rS) (N : Nat) (x y : Int32) : (rNode s N x y).2.1 21 = s.1 21 := by
  unfold rNode
  split
  · rfl
  · cases rNdF s x.toNatClampNeg y.toNatClampNeg 6 0 <;> rfl
theorem e21M (s : rS) (R S Z : Nat) (x : Int32) : (rName s R S Z x).2.1 21 = s.1 21 := by
  unfold rName
  split
  · have : (rMake s R S Z x.toNatClampNeg).2.1 21 = s.1 21 := by
      unfold rMake
      split
      · rfl
      · split
        · split
          · rfl
          · split
            · rfl
            · simp [rMkS, upd]
        · rfl
    simpa [upd] using this
  · simp [upd]
theorem e21O (s : rS) (S : Nat) (x : Int32) : (rDrop s S x).2.1 21 = s.1 21 := by
  unfold rDrop
  split <;> rfl
theorem e21L (s : rS) (R S Z : Nat) (x : Int32) : (rLook s R S Z x).2.1 21 = s.1 21 := by
  unfold rLook
  split
  · have : (rSearch s R S Z (x.toNatClampNeg / 8)).2.1 21 = s.1 21 := by
      unfold rSearch
      split
      · split
        · simp [rSt', upd]
        · rfl
      · rfl
    simpa [upd] using this
  · simp [upd]
theorem e21S (s : rS) (R S X : Nat) (x y : Int32) : (rOpen s R S X x y).2.1 21 = s.1 21 := by
  unfold rOpen
  split
  · rfl
  · split
    · rfl
    · split
      · rfl
      · simp [upd]
theorem e21C (s : rS) (R : Nat) (x k y p : Int32) : (rCmd s R x k y p).2.1 21 = s.1 21 := by
  unfold rCmd
  split
  · rfl
  · split
    · rfl
    · split
      · rfl
      · exact (rOw.att _ R _).1 21 (by decide) (by decide)
set_option maxRecDepth 100000 in
set_option maxHeartbeats 4000000 in
theorem lo0 (hL : L ≤ 2563) {i nx T cb sb : Nat} {M : xM} {s : rS} (hi : i + 5 ≤ L) (hc : 20 ≤ cb) (hsb : 220 ≤ sb) (hT : T < 600) (hw : LW E b L xs m nx M c s T) (x0 : xs i &&& 31 = 0) (back : ∀ M' nx' s' cb' sb', LW E b L xs m nx' M' c s' (T + 1) → cb ≤ cb' + 20 → sb ≤ sb' + 220 → XZ E 0 (xZ E 0 Q) 692 [some (.ref b), some (.ref c), some (.ref m), some (.int (nI i))] [] M' nx' cb' sb') : XZ E 0 (xZ E 0 Q) 48 [some (.ref b), some (.ref c), some (.ref m), some (.int (nI i))] [] M nx cb sb := by
  have e : ¬ nI L - 5 < nI i := by
    rw [show nI L - 5 = nI (L - 5) from nI_subn L 5 (by omega)]
    exact k2_nlt (nI_le (by omega) (by omega))
  have i0 := nIx (show i < L by omega) (by omega)
  have i1 := nIx (show i + 1 < L by omega) (by omega)
  have i2 := nIx (show i + 2 < L by omega) (by omega)
  have i3 := nIx (show i + 3 < L by omega) (by omega)
  have i4 := nIx (show i + 4 < L by omega) (by omega)
  have p2 : nI i + 2 = nI (i + 2) := nI_add i 2
  have p3 : nI i + 3 = nI (i + 3) := nI_add i 3
  have p4 : nI i + 4 = nI (i + 4) := nI_add i 4
  have p5 : nI i + 5 = nI (i + 5) := nI_add i 5
  obtain ⟨A, v, a0, hW, rr, hm, he, hs, T', hT1, hT2⟩ := id hw
  have sc : ∀ P, xarr M b P = P 0 L (fun k => .int (xs k)) := fun P => xhar hs.1
  subst a0
  have xO := cFx hW.1
  have hR := hW.1.1.2.2.1
  have hN := hW.1.1.2.1
  have hS := hW.1.1.2.2.2.1
  have hX := hW.1.1.2.2.2.2.1
  have h9 := hW.2.1.1.1.2.2.2
  have h7 := hW.2.1.1.1.2.2.1
  have h22 := hW.2.1.2.1.2.1.2.1
  have h34 := hW.2.1.2.1.2.1.2.2.2
  have hl := hW.2.2.2.2.2.2.2.1
  have hrt := hW.rt
  have hrv := hW.rv
  have hho : ∀ i, i < A 2 2 → ∃ B, B < 64 ∧ s.2 16 i = nI B := fun i hi => by
    obtain ⟨b', hb', e', _⟩ := hW.2.2.2.2.2.2.1.2.1 i hi
    exact ⟨b', hb', e'⟩
  refine XZ.runH 60 [692] ?_
  have sw0 : swt 0 692 [(0, 156), (1, 181), (2, 194), (3, 217), (4, 266), (5, 299), (6, 322), (7, 345), (8, 368), (9, 391), (10, 404), (11, 437), (12, 470), (13, 503), (14, 556), (15, 579), (16, 602), (17, 625), (18, 658), (19, 679)] = 156 := by decide
  have hy : ∃ y, y = ((xs (i + 1)).toUInt32 % 65536).toInt32 := ⟨_, rfl⟩
  obtain ⟨y, ey⟩ := hy
  simp only [n0, n3, t0, ↓xh, ↓xst, ↓xrunE, ↓rG, rL, rSt, updA, List.elem_nil, List.elem_cons, Nat.reduceBEq, Bool.false_eq_true, if_false, if_true, true_and, and_true, true_or, or_true, not_false_eq_true, Nat.reduceAdd, Nat.reduceSub, Nat.reduceLeDiff, Nat.reduceEqDiff, Nat.reduceLT, ↓reduceIte, List.length_cons, List.length_nil, List.set_cons_zero, List.set_cons_succ, Nat.le_refl, Nat.zero_le, Nat.zero_sub, Nat.sub_zero, List.nil_append, List.cons_append, Option.toList_some, Option.toList_none, eq_self, ↓sc, ofN, e, i0, x0, xsw_t, sw0, ↓xO, ↓sc, i1, nI_1, ← ey, show 1 ≤ cb by omega, show 34 ≤ sb by omega]
  refine w3 hW (fun Z hZ h4Z M1 A1 v1 nx1 hn a1 w1 f1 bk1 => ?_)
  have sc1 : ∀ P, xarr M1 b P = P 0 L (fun k => .int (xs k)) := fun P => xhar (by rw [f1 b (hW.lo hs.2).1 (hW.lo hs.2).2]; exact hs.1)
  have rr1 := rep_mv rr hm.2 f1
  refine XZ.runH 60 [692] ?_
  simp only [n0, n80, t0, ↓xh, ↓xst, ↓xrunE, ↓rG, rL, rSt, updA, List.elem_nil, List.elem_cons, Nat.reduceBEq, Bool.false_eq_true, if_false, if_true, true_and, and_true, true_or, or_true, not_false_eq_true, Nat.reduceAdd, Nat.reduceSub, Nat.reduceLeDiff, Nat.reduceEqDiff, Nat.reduceLT, ↓reduceIte, List.length_cons, List.length_nil, List.set_cons_zero, List.set_cons_succ, Nat.le_refl, Nat.zero_le, Nat.zero_sub, Nat.sub_zero, List.nil_append, List.cons_append, Option.toList_some, Option.toList_none, eq_self, ↓rO1 rr1.1, ↓sc1, i1, nI_1, ← ey]
  refine rc80 hm.1 rr1 hZ h4Z (fun M2 r2 => ?_)
  refine XZ.runH 60 [692] ?_
  simp only [n0, t0, ↓xh, ↓xst, ↓xrunE, ↓rG, rL, rSt, updA, List.elem_nil, List.elem_cons, Nat.reduceBEq, Bool.false_eq_true, if_false, if_true, true_and, and_true, true_or, or_true, not_false_eq_true, Nat.reduceAdd, Nat.reduceSub, Nat.reduceLeDiff, Nat.reduceEqDiff, Nat.reduceLT, ↓reduceIte, List.length_cons, List.length_nil, List.set_cons_zero, List.set_cons_succ, Nat.le_refl, Nat.zero_le, Nat.zero_sub, Nat.sub_zero, List.nil_append, List.cons_append, Option.toList_some, Option.toList_none, eq_self]
  exact back M2 nx1 _ _ _ (LW.st rfl hW rr hm he hs hn a1 w1 f1 bk1 r2 ⟨T', by omega, (e21W s Z y).trans hT2⟩) (by omega) (by omega)
set_option maxRecDepth 100000 in
set_option maxHeartbeats 4000000 in
theorem lo1 (hL : L ≤ 2563) {i nx T cb sb : Nat} {M : xM} {s : rS} (hi : i + 5 ≤ L) (hc : 20 ≤ cb) (hsb : 220 ≤ sb) (hT : T < 600) (hw : LW E b L xs m nx M c s T) (x1 : xs i &&& 31 = 1) (back : ∀ M' nx' s' cb' sb', LW E b L xs m nx' M' c s' (T + 1) → cb ≤ cb' + 20 → sb ≤ sb' + 220 → XZ E 0 (xZ E 0 Q) 692 [some (.ref b), some (.ref c), some (.ref m), some (.int (nI i))] [] M' nx' cb' sb') : XZ E 0 (xZ E 0 Q) 48 [some (.ref b), some (.ref c), some (.ref m), some (.int (nI i))] [] M nx cb sb := by
  have e : ¬ nI L - 5 < nI i := by
    rw [show nI L - 5 = nI (L - 5) from nI_subn L 5 (by omega)]
    exact k2_nlt (nI_le (by omega) (by omega))
  have i0 := nIx (show i < L by omega) (by omega)
  have i1 := nIx (show i + 1 < L by omega) (by omega)
  have i2 := nIx (show i + 2 < L by omega) (by omega)
  have i3 := nIx (show i + 3 < L by omega) (by omega)
  have i4 := nIx (show i + 4 < L by omega) (by omega)
  have p2 : nI i + 2 = nI (i + 2) := nI_add i 2
  have p3 : nI i + 3 = nI (i + 3) := nI_add i 3
  have p4 : nI i + 4 = nI (i + 4) := nI_add i 4
  have p5 : nI i + 5 = nI (i + 5) := nI_add i 5
  obtain ⟨A, v, a0, hW, rr, hm, he, hs, T', hT1, hT2⟩ := id hw
  have sc : ∀ P, xarr M b P = P 0 L (fun k => .int (xs k)) := fun P => xhar hs.1
  subst a0
  have xO := cFx hW.1
  have hR := hW.1.1.2.2.1
  have hN := hW.1.1.2.1
  have hS := hW.1.1.2.2.2.1
  have hX := hW.1.1.2.2.2.2.1
  have h9 := hW.2.1.1.1.2.2.2
  have h7 := hW.2.1.1.1.2.2.1
  have h22 := hW.2.1.2.1.2.1.2.1
  have h34 := hW.2.1.2.1.2.1.2.2.2
  have hl := hW.2.2.2.2.2.2.2.1
  have hrt := hW.rt
  have hrv := hW.rv
  have hho : ∀ i, i < A 2 2 → ∃ B, B < 64 ∧ s.2 16 i = nI B := fun i hi => by
    obtain ⟨b', hb', e', _⟩ := hW.2.2.2.2.2.2.1.2.1 i hi
    exact ⟨b', hb', e'⟩
  refine XZ.runH 60 [692] ?_
  have sw1 : swt 1 692 [(0, 156), (1, 181), (2, 194), (3, 217), (4, 266), (5, 299), (6, 322), (7, 345), (8, 368), (9, 391), (10, 404), (11, 437), (12, 470), (13, 503), (14, 556), (15, 579), (16, 602), (17, 625), (18, 658), (19, 679)] = 181 := by decide
  simp only [n0, n4, t0, ↓xh, ↓xst, ↓xrunE, ↓rG, rL, rSt, updA, List.elem_nil, List.elem_cons, Nat.reduceBEq, Bool.false_eq_true, if_false, if_true, true_and, and_true, true_or, or_true, not_false_eq_true, Nat.reduceAdd, Nat.reduceSub, Nat.reduceLeDiff, Nat.reduceEqDiff, Nat.reduceLT, ↓reduceIte, List.length_cons, List.length_nil, List.set_cons_zero, List.set_cons_succ, Nat.le_refl, Nat.zero_le, Nat.zero_sub, Nat.sub_zero, List.nil_append, List.cons_append, Option.toList_some, Option.toList_none, eq_self, ↓sc, ofN, e, i0, x1, xsw_t, sw1, ↓xO, show 5 ≤ cb by omega, show 82 ≤ sb by omega]
  refine w4 hW he (fun Z hZ h4Z M1 A1 v1 nx1 hn a1 w1 f1 bk1 => ?_)
  have sc1 : ∀ P, xarr M1 b P = P 0 L (fun k => .int (xs k)) := fun P => xhar (by rw [f1 b (hW.lo hs.2).1 (hW.lo hs.2).2]; exact hs.1)
  have rr1 := rep_mv rr hm.2 f1
  refine XZ.runH 60 [692] ?_
  simp only [n0, n81, t0, ↓xh, ↓xst, ↓xrunE, ↓rG, rL, rSt, updA, List.elem_nil, List.elem_cons, Nat.reduceBEq, Bool.false_eq_true, if_false, if_true, true_and, and_true, true_or, or_true, not_false_eq_true, Nat.reduceAdd, Nat.reduceSub, Nat.reduceLeDiff, Nat.reduceEqDiff, Nat.reduceLT, ↓reduceIte, List.length_cons, List.length_nil, List.set_cons_zero, List.set_cons_succ, Nat.le_refl, Nat.zero_le, Nat.zero_sub, Nat.sub_zero, List.nil_append, List.cons_append, Option.toList_some, Option.toList_none, eq_self, ↓rO1 rr1.1]
  refine rc81 hm.1 rr1 hl hN h7 hZ h4Z (fun M2 r2 => ?_)
  refine XZ.runH 60 [692] ?_
  simp only [n0, t0, ↓xh, ↓xst, ↓xrunE, ↓rG, rL, rSt, updA, List.elem_nil, List.elem_cons, Nat.reduceBEq, Bool.false_eq_true, if_false, if_true, true_and, and_true, true_or, or_true, not_false_eq_true, Nat.reduceAdd, Nat.reduceSub, Nat.reduceLeDiff, Nat.reduceEqDiff, Nat.reduceLT, ↓reduceIte, List.length_cons, List.length_nil, List.set_cons_zero, List.set_cons_succ, Nat.le_refl, Nat.zero_le, Nat.zero_sub, Nat.sub_zero, List.nil_append, List.cons_append, Option.toList_some, Option.toList_none, eq_self]
  exact back M2 nx1 _ _ _ (LW.st rfl hW rr hm he hs hn a1 w1 f1 bk1 r2 ⟨T', by omega, (e21N s _ Z).trans hT2⟩) (by omega) (by omega)
set_option maxRecDepth 100000 in
set_option maxHeartbeats 4000000 in
theorem lo2 (hL : L ≤ 2563) {i nx T cb sb : Nat} {M : xM} {s : rS} (hi : i + 5 ≤ L) (hc : 20 ≤ cb) (hsb : 220 ≤ sb) (hT : T < 600) (hw : LW E b L xs m nx M c s T) (x2 : xs i &&& 31 = 2) (back : ∀ M' nx' s' cb' sb', LW E b L xs m nx' M' c s' (T + 1) → cb ≤ cb' + 20 → sb ≤ sb' + 220 → XZ E 0 (xZ E 0 Q) 692 [some (.ref b), some (.ref c), some (.ref m), some (.int (nI i))] [] M' nx' cb' sb') : XZ E 0 (xZ E 0 Q) 48 [some (.ref b), some (.ref c), some (.ref m), some (.int (nI i))] [] M nx cb sb := by
  have e : ¬ nI L - 5 < nI i := by
    rw [show nI L - 5 = nI (L - 5) from nI_subn L 5 (by omega)]
    exact k2_nlt (nI_le (by omega) (by omega))
  have i0 := nIx (show i < L by omega) (by omega)
  have i1 := nIx (show i + 1 < L by omega) (by omega)
  have i2 := nIx (show i + 2 < L by omega) (by omega)
  have i3 := nIx (show i + 3 < L by omega) (by omega)
  have i4 := nIx (show i + 4 < L by omega) (by omega)
  have p2 : nI i + 2 = nI (i + 2) := nI_add i 2
  have p3 : nI i + 3 = nI (i + 3) := nI_add i 3
  have p4 : nI i + 4 = nI (i + 4) := nI_add i 4
  have p5 : nI i + 5 = nI (i + 5) := nI_add i 5
  obtain ⟨A, v, a0, hW, rr, hm, he, hs, T', hT1, hT2⟩ := id hw
  have sc : ∀ P, xarr M b P = P 0 L (fun k => .int (xs k)) := fun P => xhar hs.1
  subst a0
  have xO := cFx hW.1
  have hR := hW.1.1.2.2.1
  have hN := hW.1.1.2.1
  have hS := hW.1.1.2.2.2.1
  have hX := hW.1.1.2.2.2.2.1
  have h9 := hW.2.1.1.1.2.2.2
  have h7 := hW.2.1.1.1.2.2.1
  have h22 := hW.2.1.2.1.2.1.2.1
  have h34 := hW.2.1.2.1.2.1.2.2.2
  have hl := hW.2.2.2.2.2.2.2.1
  have hrt := hW.rt
  have hrv := hW.rv
  have hho : ∀ i, i < A 2 2 → ∃ B, B < 64 ∧ s.2 16 i = nI B := fun i hi => by
    obtain ⟨b', hb', e', _⟩ := hW.2.2.2.2.2.2.1.2.1 i hi
    exact ⟨b', hb', e'⟩
  refine XZ.runH 60 [692] ?_
  have sw2 : swt 2 692 [(0, 156), (1, 181), (2, 194), (3, 217), (4, 266), (5, 299), (6, 322), (7, 345), (8, 368), (9, 391), (10, 404), (11, 437), (12, 470), (13, 503), (14, 556), (15, 579), (16, 602), (17, 625), (18, 658), (19, 679)] = 194 := by decide
  simp only [n0, n5, t0, ↓xh, ↓xst, ↓xrunE, ↓rG, rL, rSt, updA, List.elem_nil, List.elem_cons, Nat.reduceBEq, Bool.false_eq_true, if_false, if_true, true_and, and_true, true_or, or_true, not_false_eq_true, Nat.reduceAdd, Nat.reduceSub, Nat.reduceLeDiff, Nat.reduceEqDiff, Nat.reduceLT, ↓reduceIte, List.length_cons, List.length_nil, List.set_cons_zero, List.set_cons_succ, Nat.le_refl, Nat.zero_le, Nat.zero_sub, Nat.sub_zero, List.nil_append, List.cons_append, Option.toList_some, Option.toList_none, eq_self, ↓sc, ofN, e, i0, x2, xsw_t, sw2, ↓xO, ↓sc, i1, nI_1, show 13 ≤ cb by omega, show 94 ≤ sb by omega]
  refine w5 hW (fun M1 A1 v1 nx1 hn a1 w1 f1 bk1 => ?_)
  have sc1 : ∀ P, xarr M1 b P = P 0 L (fun k => .int (xs k)) := fun P => xhar (by rw [f1 b (hW.lo hs.2).1 (hW.lo hs.2).2]; exact hs.1)
  have rr1 := rep_mv rr hm.2 f1
  refine XZ.runH 60 [692] ?_
  simp only [n0, n82, t0, ↓xh, ↓xst, ↓xrunE, ↓rG, rL, rSt, updA, List.elem_nil, List.elem_cons, Nat.reduceBEq, Bool.false_eq_true, if_false, if_true, true_and, and_true, true_or, or_true, not_false_eq_true, Nat.reduceAdd, Nat.reduceSub, Nat.reduceLeDiff, Nat.reduceEqDiff, Nat.reduceLT, ↓reduceIte, List.length_cons, List.length_nil, List.set_cons_zero, List.set_cons_succ, Nat.le_refl, Nat.zero_le, Nat.zero_sub, Nat.sub_zero, List.nil_append, List.cons_append, Option.toList_some, Option.toList_none, eq_self, ↓rO1 rr1.1, ↓sc1, i1, nI_1]
  refine rc82 hm.1 rr1 hR h9 hN h7 (fun M2 r2 => ?_)
  refine XZ.runH 60 [692] ?_
  simp only [n0, t0, ↓xh, ↓xst, ↓xrunE, ↓rG, rL, rSt, updA, List.elem_nil, List.elem_cons, Nat.reduceBEq, Bool.false_eq_true, if_false, if_true, true_and, and_true, true_or, or_true, not_false_eq_true, Nat.reduceAdd, Nat.reduceSub, Nat.reduceLeDiff, Nat.reduceEqDiff, Nat.reduceLT, ↓reduceIte, List.length_cons, List.length_nil, List.set_cons_zero, List.set_cons_succ, Nat.le_refl, Nat.zero_le, Nat.zero_sub, Nat.sub_zero, List.nil_append, List.cons_append, Option.toList_some, Option.toList_none, eq_self]
  exact back M2 nx1 _ _ _ (LW.st rfl hW rr hm he hs hn a1 w1 f1 bk1 r2 ⟨T', by omega, (e21R s _ _ _).trans hT2⟩) (by omega) (by omega)
set_option maxRecDepth 100000 in
set_option maxHeartbeats 4000000 in
theorem lo3 (hL : L ≤ 2563) {i nx T cb sb : Nat} {M : xM} {s : rS} (hi : i + 5 ≤ L) (hc : 20 ≤ cb) (hsb : 220 ≤ sb) (hT : T < 600) (hw : LW E b L xs m nx M c s T) (x3 : xs i &&& 31 = 3) (back : ∀ M' nx' s' cb' sb', LW E b L xs m nx' M' c s' (T + 1) → cb ≤ cb' + 20 → sb ≤ sb' + 220 → XZ E 0 (xZ E 0 Q) 692 [some (.ref b), some (.ref c), some (.ref m), some (.int (nI i))] [] M' nx' cb' sb') : XZ E 0 (xZ E 0 Q) 48 [some (.ref b), some (.ref c), some (.ref m), some (.int (nI i))] [] M nx cb sb := by
  have e : ¬ nI L - 5 < nI i := by
    rw [show nI L - 5 = nI (L - 5) from nI_subn L 5 (by omega)]
    exact k2_nlt (nI_le (by omega) (by omega))
  have i0 := nIx (show i < L by omega) (by omega)
  have i1 := nIx (show i + 1 < L by omega) (by omega)
  have i2 := nIx (show i + 2 < L by omega) (by omega)
  have i3 := nIx (show i + 3 < L by omega) (by omega)
  have i4 := nIx (show i + 4 < L by omega) (by omega)
  have p2 : nI i + 2 = nI (i + 2) := nI_add i 2
  have p3 : nI i + 3 = nI (i + 3) := nI_add i 3
  have p4 : nI i + 4 = nI (i + 4) := nI_add i 4
  have p5 : nI i + 5 = nI (i + 5) := nI_add i 5
  obtain ⟨A, v, a0, hW, rr, hm, he, hs, T', hT1, hT2⟩ := id hw
  have sc : ∀ P, xarr M b P = P 0 L (fun k => .int (xs k)) := fun P => xhar hs.1
  subst a0
  have xO := cFx hW.1
  have hR := hW.1.1.2.2.1
  have hN := hW.1.1.2.1
  have hS := hW.1.1.2.2.2.1
  have hX := hW.1.1.2.2.2.2.1
  have h9 := hW.2.1.1.1.2.2.2
  have h7 := hW.2.1.1.1.2.2.1
  have h22 := hW.2.1.2.1.2.1.2.1
  have h34 := hW.2.1.2.1.2.1.2.2.2
  have hl := hW.2.2.2.2.2.2.2.1
  have hrt := hW.rt
  have hrv := hW.rv
  have hho : ∀ i, i < A 2 2 → ∃ B, B < 64 ∧ s.2 16 i = nI B := fun i hi => by
    obtain ⟨b', hb', e', _⟩ := hW.2.2.2.2.2.2.1.2.1 i hi
    exact ⟨b', hb', e'⟩
  refine XZ.runH 60 [692] ?_
  have sw3 : swt 3 692 [(0, 156), (1, 181), (2, 194), (3, 217), (4, 266), (5, 299), (6, 322), (7, 345), (8, 368), (9, 391), (10, 404), (11, 437), (12, 470), (13, 503), (14, 556), (15, 579), (16, 602), (17, 625), (18, 658), (19, 679)] = 217 := by decide
  have key : ∀ y, (y = 0 ∨ y = 1) → (∀ Q', cP E nx M A (rPower s (A 2 1) (xs (i + 1)) y).2 (some (.int (rPower s (A 2 1) (xs (i + 1)) y).1)) Q' → XC E 6 [.ref (A 0 0), .int (xs (i + 1)), .int y] M nx Q') := fun y hy Q' hq' => w6 hW hy hq'
  by_cases c0 : xs (i + 2) = 0
  · simp only [n0, n6, t0, ↓xh, ↓xst, ↓xrunE, ↓rG, rL, rSt, updA, List.elem_nil, List.elem_cons, Nat.reduceBEq, Bool.false_eq_true, if_false, if_true, true_and, and_true, true_or, or_true, not_false_eq_true, Nat.reduceAdd, Nat.reduceSub, Nat.reduceLeDiff, Nat.reduceEqDiff, Nat.reduceLT, ↓reduceIte, List.length_cons, List.length_nil, List.set_cons_zero, List.set_cons_succ, Nat.le_refl, Nat.zero_le, Nat.zero_sub, Nat.sub_zero, List.nil_append, List.cons_append, Option.toList_some, Option.toList_none, eq_self, ↓sc, ofN, e, i0, x3, xsw_t, sw3, ↓xO, ↓sc, i1, nI_1, i2, p2, c0]
    refine key 0 (Or.inl rfl) _ (fun M1 A1 v1 nx1 hn a1 w1 f1 bk1 => ?_)
    have sc1 : ∀ P, xarr M1 b P = P 0 L (fun k => .int (xs k)) := fun P => xhar (by rw [f1 b (hW.lo hs.2).1 (hW.lo hs.2).2]; exact hs.1)
    have rr1 := rep_mv rr hm.2 f1
    refine XZ.runH 60 [692] ?_
    simp only [n0, n83, t0, ↓xh, ↓xst, ↓xrunE, ↓rG, rL, rSt, updA, List.elem_nil, List.elem_cons, Nat.reduceBEq, Bool.false_eq_true, if_false, if_true, true_and, and_true, true_or, or_true, not_false_eq_true, Nat.reduceAdd, Nat.reduceSub, Nat.reduceLeDiff, Nat.reduceEqDiff, Nat.reduceLT, ↓reduceIte, List.length_cons, List.length_nil, List.set_cons_zero, List.set_cons_succ, Nat.le_refl, Nat.zero_le, Nat.zero_sub, Nat.sub_zero, List.nil_append, List.cons_append, Option.toList_some, Option.toList_none, eq_self, ↓rO1 rr1.1, ↓sc1, i1, nI_1, i2, p2, c0]
    refine rd83 hm.1 rr1 hR h9 (Or.inl rfl) (fun M2 r2 => ?_)
    refine XZ.runH 60 [692] ?_
    simp only [n0, t0, ↓xh, ↓xst, ↓xrunE, ↓rG, rL, rSt, updA, List.elem_nil, List.elem_cons, Nat.reduceBEq, Bool.false_eq_true, if_false, if_true, true_and, and_true, true_or, or_true, not_false_eq_true, Nat.reduceAdd, Nat.reduceSub, Nat.reduceLeDiff, Nat.reduceEqDiff, Nat.reduceLT, ↓reduceIte, List.length_cons, List.length_nil, List.set_cons_zero, List.set_cons_succ, Nat.le_refl, Nat.zero_le, Nat.zero_sub, Nat.sub_zero, List.nil_append, List.cons_append, Option.toList_some, Option.toList_none, eq_self]
    exact back M2 nx1 _ _ _ (LW.st rfl hW rr hm he hs hn a1 w1 f1 bk1 r2 ⟨T', by omega, (e21P s _ _ _).trans hT2⟩) (by omega) (by omega)
  · simp only [n0, n6, t0, ↓xh, ↓xst, ↓xrunE, ↓rG, rL, rSt, updA, List.elem_nil, List.elem_cons, Nat.reduceBEq, Bool.false_eq_true, if_false, if_true, true_and, and_true, true_or, or_true, not_false_eq_true, Nat.reduceAdd, Nat.reduceSub, Nat.reduceLeDiff, Nat.reduceEqDiff, Nat.reduceLT, ↓reduceIte, List.length_cons, List.length_nil, List.set_cons_zero, List.set_cons_succ, Nat.le_refl, Nat.zero_le, Nat.zero_sub, Nat.sub_zero, List.nil_append, List.cons_append, Option.toList_some, Option.toList_none, eq_self, ↓sc, ofN, e, i0, x3, xsw_t, sw3, ↓xO, ↓sc, i1, nI_1, i2, p2, c0]
    refine key 1 (Or.inr rfl) _ (fun M1 A1 v1 nx1 hn a1 w1 f1 bk1 => ?_)
    have sc1 : ∀ P, xarr M1 b P = P 0 L (fun k => .int (xs k)) := fun P => xhar (by rw [f1 b (hW.lo hs.2).1 (hW.lo hs.2).2]; exact hs.1)
    have rr1 := rep_mv rr hm.2 f1
    refine XZ.runH 60 [692] ?_
    simp only [n0, n83, t0, ↓xh, ↓xst, ↓xrunE, ↓rG, rL, rSt, updA, List.elem_nil, List.elem_cons, Nat.reduceBEq, Bool.false_eq_true, if_false, if_true, true_and, and_true, true_or, or_true, not_false_eq_true, Nat.reduceAdd, Nat.reduceSub, Nat.reduceLeDiff, Nat.reduceEqDiff, Nat.reduceLT, ↓reduceIte, List.length_cons, List.length_nil, List.set_cons_zero, List.set_cons_succ, Nat.le_refl, Nat.zero_le, Nat.zero_sub, Nat.sub_zero, List.nil_append, List.cons_append, Option.toList_some, Option.toList_none, eq_self, ↓rO1 rr1.1, ↓sc1, i1, nI_1, i2, p2, c0]
    refine rd83 hm.1 rr1 hR h9 (Or.inr rfl) (fun M2 r2 => ?_)
    refine XZ.runH 60 [692] ?_
    simp only [n0, t0, ↓xh, ↓xst, ↓xrunE, ↓rG, rL, rSt, updA, List.elem_nil, List.elem_cons, Nat.reduceBEq, Bool.false_eq_true, if_false, if_true, true_and, and_true, true_or, or_true, not_false_eq_true, Nat.reduceAdd, Nat.reduceSub, Nat.reduceLeDiff, Nat.reduceEqDiff, Nat.reduceLT, ↓reduceIte, List.length_cons, List.length_nil, List.set_cons_zero, List.set_cons_succ, Nat.le_refl, Nat.zero_le, Nat.zero_sub, Nat.sub_zero, List.nil_append, List.cons_append, Option.toList_some, Option.toList_none, eq_self]
    exact back M2 nx1 _ _ _ (LW.st rfl hW rr hm he hs hn a1 w1 f1 bk1 r2 ⟨T', by omega, (e21P s _ _ _).trans hT2⟩) (by omega) (by omega)
set_option maxRecDepth 100000 in
set_option maxHeartbeats 4000000 in
theorem lo4 (hL : L ≤ 2563) {i nx T cb sb : Nat} {M : xM} {s : rS} (hi : i + 5 ≤ L) (hc : 20 ≤ cb) (hsb : 220 ≤ sb) (hT : T < 600) (hw : LW E b L xs m nx M c s T) (x4 : xs i &&& 31 = 4) (back : ∀ M' nx' s' cb' sb', LW E b L xs m nx' M' c s' (T + 1) → cb ≤ cb' + 20 → sb ≤ sb' + 220 → XZ E 0 (xZ E 0 Q) 692 [some (.ref b), some (.ref c), some (.ref m), some (.int (nI i))] [] M' nx' cb' sb') : XZ E 0 (xZ E 0 Q) 48 [some (.ref b), some (.ref c), some (.ref m), some (.int (nI i))] [] M nx cb sb := by
  have e : ¬ nI L - 5 < nI i := by
    rw [show nI L - 5 = nI (L - 5) from nI_subn L 5 (by omega)]
    exact k2_nlt (nI_le (by omega) (by omega))
  have i0 := nIx (show i < L by omega) (by omega)
  have i1 := nIx (show i + 1 < L by omega) (by omega)
  have i2 := nIx (show i + 2 < L by omega) (by omega)
  have i3 := nIx (show i + 3 < L by omega) (by omega)
  have i4 := nIx (show i + 4 < L by omega) (by omega)
  have p2 : nI i + 2 = nI (i + 2) := nI_add i 2
  have p3 : nI i + 3 = nI (i + 3) := nI_add i 3
  have p4 : nI i + 4 = nI (i + 4) := nI_add i 4
  have p5 : nI i + 5 = nI (i + 5) := nI_add i 5
  obtain ⟨A, v, a0, hW, rr, hm, he, hs, T', hT1, hT2⟩ := id hw
  have sc : ∀ P, xarr M b P = P 0 L (fun k => .int (xs k)) := fun P => xhar hs.1
  subst a0
  have xO := cFx hW.1
  have hR := hW.1.1.2.2.1
  have hN := hW.1.1.2.1
  have hS := hW.1.1.2.2.2.1
  have hX := hW.1.1.2.2.2.2.1
  have h9 := hW.2.1.1.1.2.2.2
  have h7 := hW.2.1.1.1.2.2.1
  have h22 := hW.2.1.2.1.2.1.2.1
  have h34 := hW.2.1.2.1.2.1.2.2.2
  have hl := hW.2.2.2.2.2.2.2.1
  have hrt := hW.rt
  have hrv := hW.rv
  have hho : ∀ i, i < A 2 2 → ∃ B, B < 64 ∧ s.2 16 i = nI B := fun i hi => by
    obtain ⟨b', hb', e', _⟩ := hW.2.2.2.2.2.2.1.2.1 i hi
    exact ⟨b', hb', e'⟩
  refine XZ.runH 60 [692] ?_
  have sw4 : swt 4 692 [(0, 156), (1, 181), (2, 194), (3, 217), (4, 266), (5, 299), (6, 322), (7, 345), (8, 368), (9, 391), (10, 404), (11, 437), (12, 470), (13, 503), (14, 556), (15, 579), (16, 602), (17, 625), (18, 658), (19, 679)] = 266 := by decide
  simp only [n0, n7, t0, ↓xh, ↓xst, ↓xrunE, ↓rG, rL, rSt, updA, List.elem_nil, List.elem_cons, Nat.reduceBEq, Bool.false_eq_true, if_false, if_true, true_and, and_true, true_or, or_true, not_false_eq_true, Nat.reduceAdd, Nat.reduceSub, Nat.reduceLeDiff, Nat.reduceEqDiff, Nat.reduceLT, ↓reduceIte, List.length_cons, List.length_nil, List.set_cons_zero, List.set_cons_succ, Nat.le_refl, Nat.zero_le, Nat.zero_sub, Nat.sub_zero, List.nil_append, List.cons_append, Option.toList_some, Option.toList_none, eq_self, ↓sc, ofN, e, i0, x4, xsw_t, sw4, ↓xO, ↓sc, i1, nI_1, i2, p2]
  refine w7 hW (fun M1 A1 v1 nx1 hn a1 w1 f1 bk1 => ?_)
  have sc1 : ∀ P, xarr M1 b P = P 0 L (fun k => .int (xs k)) := fun P => xhar (by rw [f1 b (hW.lo hs.2).1 (hW.lo hs.2).2]; exact hs.1)
  have rr1 := rep_mv rr hm.2 f1
  refine XZ.runH 60 [692] ?_
  simp only [n0, n84, t0, ↓xh, ↓xst, ↓xrunE, ↓rG, rL, rSt, updA, List.elem_nil, List.elem_cons, Nat.reduceBEq, Bool.false_eq_true, if_false, if_true, true_and, and_true, true_or, or_true, not_false_eq_true, Nat.reduceAdd, Nat.reduceSub, Nat.reduceLeDiff, Nat.reduceEqDiff, Nat.reduceLT, ↓reduceIte, List.length_cons, List.length_nil, List.set_cons_zero, List.set_cons_succ, Nat.le_refl, Nat.zero_le, Nat.zero_sub, Nat.sub_zero, List.nil_append, List.cons_append, Option.toList_some, Option.toList_none, eq_self, ↓rO1 rr1.1, ↓sc1, i1, nI_1, i2, p2]
  refine rc84 hm.1 rr1 hN h7 (fun M2 r2 => ?_)
  refine XZ.runH 60 [692] ?_
  simp only [n0, t0, ↓xh, ↓xst, ↓xrunE, ↓rG, rL, rSt, updA, List.elem_nil, List.elem_cons, Nat.reduceBEq, Bool.false_eq_true, if_false, if_true, true_and, and_true, true_or, or_true, not_false_eq_true, Nat.reduceAdd, Nat.reduceSub, Nat.reduceLeDiff, Nat.reduceEqDiff, Nat.reduceLT, ↓reduceIte, List.length_cons, List.length_nil, List.set_cons_zero, List.set_cons_succ, Nat.le_refl, Nat.zero_le, Nat.zero_sub, Nat.sub_zero, List.nil_append, List.cons_append, Option.toList_some, Option.toList_none, eq_self]
  exact back M2 nx1 _ _ _ (LW.st rfl hW rr hm he hs hn a1 w1 f1 bk1 r2 ⟨T', by omega, (e21D s _ _ _).trans hT2⟩) (by omega) (by omega)
set_option maxRecDepth 100000 in
set_option maxHeartbeats 4000000 in
theorem lo5 (hL : L ≤ 2563) {i nx T cb sb : Nat} {M : xM} {s : rS} (hi : i + 5 ≤ L) (hc : 20 ≤ cb) (hsb : 220 ≤ sb) (hT : T < 600) (hw : LW E b L xs m nx M c s T) (x5 : xs i &&& 31 = 5) (back : ∀ M' nx' s' cb' sb', LW E b L xs m nx' M' c s' (T + 1) → cb ≤ cb' + 20 → sb ≤ sb' + 220 → XZ E 0 (xZ E 0 Q) 692 [some (.ref b), some (.ref c), some (.ref m), some (.int (nI i))] [] M' nx' cb' sb') : XZ E 0 (xZ E 0 Q) 48 [some (.ref b), some (.ref c), some (.ref m), some (.int (nI i))] [] M nx cb sb := by
  have e : ¬ nI L - 5 < nI i := by
    rw [show nI L - 5 = nI (L - 5) from nI_subn L 5 (by omega)]
    exact k2_nlt (nI_le (by omega) (by omega))
  have i0 := nIx (show i < L by omega) (by omega)
  have i1 := nIx (show i + 1 < L by omega) (by omega)
  have i2 := nIx (show i + 2 < L by omega) (by omega)
  have i3 := nIx (show i + 3 < L by omega) (by omega)
  have i4 := nIx (show i + 4 < L by omega) (by omega)
  have p2 : nI i + 2 = nI (i + 2) := nI_add i 2
  have p3 : nI i + 3 = nI (i + 3) := nI_add i 3
  have p4 : nI i + 4 = nI (i + 4) := nI_add i 4
  have p5 : nI i + 5 = nI (i + 5) := nI_add i 5
  obtain ⟨A, v, a0, hW, rr, hm, he, hs, T', hT1, hT2⟩ := id hw
  have sc : ∀ P, xarr M b P = P 0 L (fun k => .int (xs k)) := fun P => xhar hs.1
  subst a0
  have xO := cFx hW.1
  have hR := hW.1.1.2.2.1
  have hN := hW.1.1.2.1
  have hS := hW.1.1.2.2.2.1
  have hX := hW.1.1.2.2.2.2.1
  have h9 := hW.2.1.1.1.2.2.2
  have h7 := hW.2.1.1.1.2.2.1
  have h22 := hW.2.1.2.1.2.1.2.1
  have h34 := hW.2.1.2.1.2.1.2.2.2
  have hl := hW.2.2.2.2.2.2.2.1
  have hrt := hW.rt
  have hrv := hW.rv
  have hho : ∀ i, i < A 2 2 → ∃ B, B < 64 ∧ s.2 16 i = nI B := fun i hi => by
    obtain ⟨b', hb', e', _⟩ := hW.2.2.2.2.2.2.1.2.1 i hi
    exact ⟨b', hb', e'⟩
  refine XZ.runH 60 [692] ?_
  have sw5 : swt 5 692 [(0, 156), (1, 181), (2, 194), (3, 217), (4, 266), (5, 299), (6, 322), (7, 345), (8, 368), (9, 391), (10, 404), (11, 437), (12, 470), (13, 503), (14, 556), (15, 579), (16, 602), (17, 625), (18, 658), (19, 679)] = 299 := by decide
  simp only [n0, n8, t0, ↓xh, ↓xst, ↓xrunE, ↓rG, rL, rSt, updA, List.elem_nil, List.elem_cons, Nat.reduceBEq, Bool.false_eq_true, if_false, if_true, true_and, and_true, true_or, or_true, not_false_eq_true, Nat.reduceAdd, Nat.reduceSub, Nat.reduceLeDiff, Nat.reduceEqDiff, Nat.reduceLT, ↓reduceIte, List.length_cons, List.length_nil, List.set_cons_zero, List.set_cons_succ, Nat.le_refl, Nat.zero_le, Nat.zero_sub, Nat.sub_zero, List.nil_append, List.cons_append, Option.toList_some, Option.toList_none, eq_self, ↓sc, ofN, e, i0, x5, xsw_t, sw5, ↓xO, ↓sc, i1, nI_1, show 19 ≤ cb by omega, show 210 ≤ sb by omega]
  refine w8 hW he (fun Z hZ h4Z M1 A1 v1 nx1 hn a1 w1 f1 bk1 => ?_)
  have sc1 : ∀ P, xarr M1 b P = P 0 L (fun k => .int (xs k)) := fun P => xhar (by rw [f1 b (hW.lo hs.2).1 (hW.lo hs.2).2]; exact hs.1)
  have rr1 := rep_mv rr hm.2 f1
  refine XZ.runH 60 [692] ?_
  simp only [n0, n85, t0, ↓xh, ↓xst, ↓xrunE, ↓rG, rL, rSt, updA, List.elem_nil, List.elem_cons, Nat.reduceBEq, Bool.false_eq_true, if_false, if_true, true_and, and_true, true_or, or_true, not_false_eq_true, Nat.reduceAdd, Nat.reduceSub, Nat.reduceLeDiff, Nat.reduceEqDiff, Nat.reduceLT, ↓reduceIte, List.length_cons, List.length_nil, List.set_cons_zero, List.set_cons_succ, Nat.le_refl, Nat.zero_le, Nat.zero_sub, Nat.sub_zero, List.nil_append, List.cons_append, Option.toList_some, Option.toList_none, eq_self, ↓rO1 rr1.1, ↓sc1, i1, nI_1]
  refine rc85 hm.1 rr1 hl hR h9 hrt hS h22 hZ h4Z hho (fun M2 r2 => ?_)
  refine XZ.runH 60 [692] ?_
  simp only [n0, t0, ↓xh, ↓xst, ↓xrunE, ↓rG, rL, rSt, updA, List.elem_nil, List.elem_cons, Nat.reduceBEq, Bool.false_eq_true, if_false, if_true, true_and, and_true, true_or, or_true, not_false_eq_true, Nat.reduceAdd, Nat.reduceSub, Nat.reduceLeDiff, Nat.reduceEqDiff, Nat.reduceLT, ↓reduceIte, List.length_cons, List.length_nil, List.set_cons_zero, List.set_cons_succ, Nat.le_refl, Nat.zero_le, Nat.zero_sub, Nat.sub_zero, List.nil_append, List.cons_append, Option.toList_some, Option.toList_none, eq_self]
  exact back M2 nx1 _ _ _ (LW.st rfl hW rr hm he hs hn a1 w1 f1 bk1 r2 ⟨T', by omega, (e21M s _ _ Z _).trans hT2⟩) (by omega) (by omega)
set_option maxRecDepth 100000 in
set_option maxHeartbeats 4000000 in
theorem lo6 (hL : L ≤ 2563) {i nx T cb sb : Nat} {M : xM} {s : rS} (hi : i + 5 ≤ L) (hc : 20 ≤ cb) (hsb : 220 ≤ sb) (hT : T < 600) (hw : LW E b L xs m nx M c s T) (x6 : xs i &&& 31 = 6) (back : ∀ M' nx' s' cb' sb', LW E b L xs m nx' M' c s' (T + 1) → cb ≤ cb' + 20 → sb ≤ sb' + 220 → XZ E 0 (xZ E 0 Q) 692 [some (.ref b), some (.ref c), some (.ref m), some (.int (nI i))] [] M' nx' cb' sb') : XZ E 0 (xZ E 0 Q) 48 [some (.ref b), some (.ref c), some (.ref m), some (.int (nI i))] [] M nx cb sb := by
  have e : ¬ nI L - 5 < nI i := by
    rw [show nI L - 5 = nI (L - 5) from nI_subn L 5 (by omega)]
    exact k2_nlt (nI_le (by omega) (by omega))
  have i0 := nIx (show i < L by omega) (by omega)
  have i1 := nIx (show i + 1 < L by omega) (by omega)
  have i2 := nIx (show i + 2 < L by omega) (by omega)
  have i3 := nIx (show i + 3 < L by omega) (by omega)
  have i4 := nIx (show i + 4 < L by omega) (by omega)
  have p2 : nI i + 2 = nI (i + 2) := nI_add i 2
  have p3 : nI i + 3 = nI (i + 3) := nI_add i 3
  have p4 : nI i + 4 = nI (i + 4) := nI_add i 4
  have p5 : nI i + 5 = nI (i + 5) := nI_add i 5
  obtain ⟨A, v, a0, hW, rr, hm, he, hs, T', hT1, hT2⟩ := id hw
  have sc : ∀ P, xarr M b P = P 0 L (fun k => .int (xs k)) := fun P => xhar hs.1
  subst a0
  have xO := cFx hW.1
  have hR := hW.1.1.2.2.1
  have hN := hW.1.1.2.1
  have hS := hW.1.1.2.2.2.1
  have hX := hW.1.1.2.2.2.2.1
  have h9 := hW.2.1.1.1.2.2.2
  have h7 := hW.2.1.1.1.2.2.1
  have h22 := hW.2.1.2.1.2.1.2.1
  have h34 := hW.2.1.2.1.2.1.2.2.2
  have hl := hW.2.2.2.2.2.2.2.1
  have hrt := hW.rt
  have hrv := hW.rv
  have hho : ∀ i, i < A 2 2 → ∃ B, B < 64 ∧ s.2 16 i = nI B := fun i hi => by
    obtain ⟨b', hb', e', _⟩ := hW.2.2.2.2.2.2.1.2.1 i hi
    exact ⟨b', hb', e'⟩
  refine XZ.runH 60 [692] ?_
  have sw6 : swt 6 692 [(0, 156), (1, 181), (2, 194), (3, 217), (4, 266), (5, 299), (6, 322), (7, 345), (8, 368), (9, 391), (10, 404), (11, 437), (12, 470), (13, 503), (14, 556), (15, 579), (16, 602), (17, 625), (18, 658), (19, 679)] = 322 := by decide
  simp only [n0, n9, t0, ↓xh, ↓xst, ↓xrunE, ↓rG, rL, rSt, updA, List.elem_nil, List.elem_cons, Nat.reduceBEq, Bool.false_eq_true, if_false, if_true, true_and, and_true, true_or, or_true, not_false_eq_true, Nat.reduceAdd, Nat.reduceSub, Nat.reduceLeDiff, Nat.reduceEqDiff, Nat.reduceLT, ↓reduceIte, List.length_cons, List.length_nil, List.set_cons_zero, List.set_cons_succ, Nat.le_refl, Nat.zero_le, Nat.zero_sub, Nat.sub_zero, List.nil_append, List.cons_append, Option.toList_some, Option.toList_none, eq_self, ↓sc, ofN, e, i0, x6, xsw_t, sw6, ↓xO, ↓sc, i1, nI_1]
  refine w9 hW (fun M1 A1 v1 nx1 hn a1 w1 f1 bk1 => ?_)
  have sc1 : ∀ P, xarr M1 b P = P 0 L (fun k => .int (xs k)) := fun P => xhar (by rw [f1 b (hW.lo hs.2).1 (hW.lo hs.2).2]; exact hs.1)
  have rr1 := rep_mv rr hm.2 f1
  refine XZ.runH 60 [692] ?_
  simp only [n0, n86, t0, ↓xh, ↓xst, ↓xrunE, ↓rG, rL, rSt, updA, List.elem_nil, List.elem_cons, Nat.reduceBEq, Bool.false_eq_true, if_false, if_true, true_and, and_true, true_or, or_true, not_false_eq_true, Nat.reduceAdd, Nat.reduceSub, Nat.reduceLeDiff, Nat.reduceEqDiff, Nat.reduceLT, ↓reduceIte, List.length_cons, List.length_nil, List.set_cons_zero, List.set_cons_succ, Nat.le_refl, Nat.zero_le, Nat.zero_sub, Nat.sub_zero, List.nil_append, List.cons_append, Option.toList_some, Option.toList_none, eq_self, ↓rO1 rr1.1, ↓sc1, i1, nI_1]
  refine rc86 hm.1 rr1 hS h22 (fun M2 r2 => ?_)
  refine XZ.runH 60 [692] ?_
  simp only [n0, t0, ↓xh, ↓xst, ↓xrunE, ↓rG, rL, rSt, updA, List.elem_nil, List.elem_cons, Nat.reduceBEq, Bool.false_eq_true, if_false, if_true, true_and, and_true, true_or, or_true, not_false_eq_true, Nat.reduceAdd, Nat.reduceSub, Nat.reduceLeDiff, Nat.reduceEqDiff, Nat.reduceLT, ↓reduceIte, List.length_cons, List.length_nil, List.set_cons_zero, List.set_cons_succ, Nat.le_refl, Nat.zero_le, Nat.zero_sub, Nat.sub_zero, List.nil_append, List.cons_append, Option.toList_some, Option.toList_none, eq_self]
  exact back M2 nx1 _ _ _ (LW.st rfl hW rr hm he hs hn a1 w1 f1 bk1 r2 ⟨T', by omega, (e21O s _ _).trans hT2⟩) (by omega) (by omega)
set_option maxRecDepth 100000 in
set_option maxHeartbeats 4000000 in
theorem lo7 (hL : L ≤ 2563) {i nx T cb sb : Nat} {M : xM} {s : rS} (hi : i + 5 ≤ L) (hc : 20 ≤ cb) (hsb : 220 ≤ sb) (hT : T < 600) (hw : LW E b L xs m nx M c s T) (x7 : xs i &&& 31 = 7) (back : ∀ M' nx' s' cb' sb', LW E b L xs m nx' M' c s' (T + 1) → cb ≤ cb' + 20 → sb ≤ sb' + 220 → XZ E 0 (xZ E 0 Q) 692 [some (.ref b), some (.ref c), some (.ref m), some (.int (nI i))] [] M' nx' cb' sb') : XZ E 0 (xZ E 0 Q) 48 [some (.ref b), some (.ref c), some (.ref m), some (.int (nI i))] [] M nx cb sb := by
  have e : ¬ nI L - 5 < nI i := by
    rw [show nI L - 5 = nI (L - 5) from nI_subn L 5 (by omega)]
    exact k2_nlt (nI_le (by omega) (by omega))
  have i0 := nIx (show i < L by omega) (by omega)
  have i1 := nIx (show i + 1 < L by omega) (by omega)
  have i2 := nIx (show i + 2 < L by omega) (by omega)
  have i3 := nIx (show i + 3 < L by omega) (by omega)
  have i4 := nIx (show i + 4 < L by omega) (by omega)
  have p2 : nI i + 2 = nI (i + 2) := nI_add i 2
  have p3 : nI i + 3 = nI (i + 3) := nI_add i 3
  have p4 : nI i + 4 = nI (i + 4) := nI_add i 4
  have p5 : nI i + 5 = nI (i + 5) := nI_add i 5
  obtain ⟨A, v, a0, hW, rr, hm, he, hs, T', hT1, hT2⟩ := id hw
  have sc : ∀ P, xarr M b P = P 0 L (fun k => .int (xs k)) := fun P => xhar hs.1
  subst a0
  have xO := cFx hW.1
  have hR := hW.1.1.2.2.1
  have hN := hW.1.1.2.1
  have hS := hW.1.1.2.2.2.1
  have hX := hW.1.1.2.2.2.2.1
  have h9 := hW.2.1.1.1.2.2.2
  have h7 := hW.2.1.1.1.2.2.1
  have h22 := hW.2.1.2.1.2.1.2.1
  have h34 := hW.2.1.2.1.2.1.2.2.2
  have hl := hW.2.2.2.2.2.2.2.1
  have hrt := hW.rt
  have hrv := hW.rv
  have hho : ∀ i, i < A 2 2 → ∃ B, B < 64 ∧ s.2 16 i = nI B := fun i hi => by
    obtain ⟨b', hb', e', _⟩ := hW.2.2.2.2.2.2.1.2.1 i hi
    exact ⟨b', hb', e'⟩
  refine XZ.runH 60 [692] ?_
  have sw7 : swt 7 692 [(0, 156), (1, 181), (2, 194), (3, 217), (4, 266), (5, 299), (6, 322), (7, 345), (8, 368), (9, 391), (10, 404), (11, 437), (12, 470), (13, 503), (14, 556), (15, 579), (16, 602), (17, 625), (18, 658), (19, 679)] = 345 := by decide
  simp only [n0, n10, t0, ↓xh, ↓xst, ↓xrunE, ↓rG, rL, rSt, updA, List.elem_nil, List.elem_cons, Nat.reduceBEq, Bool.false_eq_true, if_false, if_true, true_and, and_true, true_or, or_true, not_false_eq_true, Nat.reduceAdd, Nat.reduceSub, Nat.reduceLeDiff, Nat.reduceEqDiff, Nat.reduceLT, ↓reduceIte, List.length_cons, List.length_nil, List.set_cons_zero, List.set_cons_succ, Nat.le_refl, Nat.zero_le, Nat.zero_sub, Nat.sub_zero, List.nil_append, List.cons_append, Option.toList_some, Option.toList_none, eq_self, ↓sc, ofN, e, i0, x7, xsw_t, sw7, ↓xO, ↓sc, i1, nI_1, show 10 ≤ cb by omega, show 189 ≤ sb by omega]
  refine w10 hW he (fun Z hZ h4Z M1 A1 v1 nx1 hn a1 w1 f1 bk1 => ?_)
  have sc1 : ∀ P, xarr M1 b P = P 0 L (fun k => .int (xs k)) := fun P => xhar (by rw [f1 b (hW.lo hs.2).1 (hW.lo hs.2).2]; exact hs.1)
  have rr1 := rep_mv rr hm.2 f1
  refine XZ.runH 60 [692] ?_
  simp only [n0, n87, t0, ↓xh, ↓xst, ↓xrunE, ↓rG, rL, rSt, updA, List.elem_nil, List.elem_cons, Nat.reduceBEq, Bool.false_eq_true, if_false, if_true, true_and, and_true, true_or, or_true, not_false_eq_true, Nat.reduceAdd, Nat.reduceSub, Nat.reduceLeDiff, Nat.reduceEqDiff, Nat.reduceLT, ↓reduceIte, List.length_cons, List.length_nil, List.set_cons_zero, List.set_cons_succ, Nat.le_refl, Nat.zero_le, Nat.zero_sub, Nat.sub_zero, List.nil_append, List.cons_append, Option.toList_some, Option.toList_none, eq_self, ↓rO1 rr1.1, ↓sc1, i1, nI_1]
  refine rc87 hm.1 rr1 hl hR h9 hrt hS h22 hZ h4Z hho (fun M2 r2 => ?_)
  refine XZ.runH 60 [692] ?_
  simp only [n0, t0, ↓xh, ↓xst, ↓xrunE, ↓rG, rL, rSt, updA, List.elem_nil, List.elem_cons, Nat.reduceBEq, Bool.false_eq_true, if_false, if_true, true_and, and_true, true_or, or_true, not_false_eq_true, Nat.reduceAdd, Nat.reduceSub, Nat.reduceLeDiff, Nat.reduceEqDiff, Nat.reduceLT, ↓reduceIte, List.length_cons, List.length_nil, List.set_cons_zero, List.set_cons_succ, Nat.le_refl, Nat.zero_le, Nat.zero_sub, Nat.sub_zero, List.nil_append, List.cons_append, Option.toList_some, Option.toList_none, eq_self]
  exact back M2 nx1 _ _ _ (LW.st rfl hW rr hm he hs hn a1 w1 f1 bk1 r2 ⟨T', by omega, (e21L s _ _ Z _).trans hT2⟩) (by omega) (by omega)
set_option maxRecDepth 100000 in
set_option maxHeartbeats 4000000 in
theorem lo8 (hL : L ≤ 2563) {i nx T cb sb : Nat} {M : xM} {s : rS} (hi : i + 5 ≤ L) (hc : 20 ≤ cb) (hsb : 220 ≤ sb) (hT : T < 600) (hw : LW E b L xs m nx M c s T) (x8 : xs i &&& 31 = 8) (back : ∀ M' nx' s' cb' sb', LW E b L xs m nx' M' c s' (T + 1) → cb ≤ cb' + 20 → sb ≤ sb' + 220 → XZ E 0 (xZ E 0 Q) 692 [some (.ref b), some (.ref c), some (.ref m), some (.int (nI i))] [] M' nx' cb' sb') : XZ E 0 (xZ E 0 Q) 48 [some (.ref b), some (.ref c), some (.ref m), some (.int (nI i))] [] M nx cb sb := by
  have e : ¬ nI L - 5 < nI i := by
    rw [show nI L - 5 = nI (L - 5) from nI_subn L 5 (by omega)]
    exact k2_nlt (nI_le (by omega) (by omega))
  have i0 := nIx (show i < L by omega) (by omega)
  have i1 := nIx (show i + 1 < L by omega) (by omega)
  have i2 := nIx (show i + 2 < L by omega) (by omega)
  have i3 := nIx (show i + 3 < L by omega) (by omega)
  have i4 := nIx (show i + 4 < L by omega) (by omega)
  have p2 : nI i + 2 = nI (i + 2) := nI_add i 2
  have p3 : nI i + 3 = nI (i + 3) := nI_add i 3
  have p4 : nI i + 4 = nI (i + 4) := nI_add i 4
  have p5 : nI i + 5 = nI (i + 5) := nI_add i 5
  obtain ⟨A, v, a0, hW, rr, hm, he, hs, T', hT1, hT2⟩ := id hw
  have sc : ∀ P, xarr M b P = P 0 L (fun k => .int (xs k)) := fun P => xhar hs.1
  subst a0
  have xO := cFx hW.1
  have hR := hW.1.1.2.2.1
  have hN := hW.1.1.2.1
  have hS := hW.1.1.2.2.2.1
  have hX := hW.1.1.2.2.2.2.1
  have h9 := hW.2.1.1.1.2.2.2
  have h7 := hW.2.1.1.1.2.2.1
  have h22 := hW.2.1.2.1.2.1.2.1
  have h34 := hW.2.1.2.1.2.1.2.2.2
  have hl := hW.2.2.2.2.2.2.2.1
  have hrt := hW.rt
  have hrv := hW.rv
  have hho : ∀ i, i < A 2 2 → ∃ B, B < 64 ∧ s.2 16 i = nI B := fun i hi => by
    obtain ⟨b', hb', e', _⟩ := hW.2.2.2.2.2.2.1.2.1 i hi
    exact ⟨b', hb', e'⟩
  refine XZ.runH 60 [692] ?_
  have sw8 : swt 8 692 [(0, 156), (1, 181), (2, 194), (3, 217), (4, 266), (5, 299), (6, 322), (7, 345), (8, 368), (9, 391), (10, 404), (11, 437), (12, 470), (13, 503), (14, 556), (15, 579), (16, 602), (17, 625), (18, 658), (19, 679)] = 368 := by decide
  simp only [n0, n11, t0, ↓xh, ↓xst, ↓xrunE, ↓rG, rL, rSt, updA, List.elem_nil, List.elem_cons, Nat.reduceBEq, Bool.false_eq_true, if_false, if_true, true_and, and_true, true_or, or_true, not_false_eq_true, Nat.reduceAdd, Nat.reduceSub, Nat.reduceLeDiff, Nat.reduceEqDiff, Nat.reduceLT, ↓reduceIte, List.length_cons, List.length_nil, List.set_cons_zero, List.set_cons_succ, Nat.le_refl, Nat.zero_le, Nat.zero_sub, Nat.sub_zero, List.nil_append, List.cons_append, Option.toList_some, Option.toList_none, eq_self, ↓sc, ofN, e, i0, x8, xsw_t, sw8, ↓xO, ↓sc, i1, nI_1]
  refine w11 hW (fun M1 A1 v1 nx1 hn a1 w1 f1 bk1 => ?_)
  have sc1 : ∀ P, xarr M1 b P = P 0 L (fun k => .int (xs k)) := fun P => xhar (by rw [f1 b (hW.lo hs.2).1 (hW.lo hs.2).2]; exact hs.1)
  have rr1 := rep_mv rr hm.2 f1
  refine XZ.runH 60 [692] ?_
  simp only [n0, n88, t0, ↓xh, ↓xst, ↓xrunE, ↓rG, rL, rSt, updA, List.elem_nil, List.elem_cons, Nat.reduceBEq, Bool.false_eq_true, if_false, if_true, true_and, and_true, true_or, or_true, not_false_eq_true, Nat.reduceAdd, Nat.reduceSub, Nat.reduceLeDiff, Nat.reduceEqDiff, Nat.reduceLT, ↓reduceIte, List.length_cons, List.length_nil, List.set_cons_zero, List.set_cons_succ, Nat.le_refl, Nat.zero_le, Nat.zero_sub, Nat.sub_zero, List.nil_append, List.cons_append, Option.toList_some, Option.toList_none, eq_self, ↓rO1 rr1.1, ↓sc1, i1, nI_1]
  obtain ⟨_, _, F, hF, eF⟩ := hW.2.2.2.2.2.1
  refine rc88 rr1.1 hF eF ?_
  refine XZ.runH 60 [692] ?_
  simp only [n0, t0, ↓xh, ↓xst, ↓xrunE, ↓rG, rL, rSt, updA, List.elem_nil, List.elem_cons, Nat.reduceBEq, Bool.false_eq_true, if_false, if_true, true_and, and_true, true_or, or_true, not_false_eq_true, Nat.reduceAdd, Nat.reduceSub, Nat.reduceLeDiff, Nat.reduceEqDiff, Nat.reduceLT, ↓reduceIte, List.length_cons, List.length_nil, List.set_cons_zero, List.set_cons_succ, Nat.le_refl, Nat.zero_le, Nat.zero_sub, Nat.sub_zero, List.nil_append, List.cons_append, Option.toList_some, Option.toList_none, eq_self]
  exact back M1 nx1 _ _ _ (LW.st rfl hW rr hm he hs hn a1 w1 f1 bk1 rr1 ⟨T', by omega, hT2⟩) (by omega) (by omega)
set_option maxRecDepth 100000 in
set_option maxHeartbeats 4000000 in
theorem lo9 (hL : L ≤ 2563) {i nx T cb sb : Nat} {M : xM} {s : rS} (hi : i + 5 ≤ L) (hc : 20 ≤ cb) (hsb : 220 ≤ sb) (hT : T < 600) (hw : LW E b L xs m nx M c s T) (x9 : xs i &&& 31 = 9) (back : ∀ M' nx' s' cb' sb', LW E b L xs m nx' M' c s' (T + 1) → cb ≤ cb' + 20 → sb ≤ sb' + 220 → XZ E 0 (xZ E 0 Q) 692 [some (.ref b), some (.ref c), some (.ref m), some (.int (nI i))] [] M' nx' cb' sb') : XZ E 0 (xZ E 0 Q) 48 [some (.ref b), some (.ref c), some (.ref m), some (.int (nI i))] [] M nx cb sb := by
  have e : ¬ nI L - 5 < nI i := by
    rw [show nI L - 5 = nI (L - 5) from nI_subn L 5 (by omega)]
    exact k2_nlt (nI_le (by omega) (by omega))
  have i0 := nIx (show i < L by omega) (by omega)
  have i1 := nIx (show i + 1 < L by omega) (by omega)
  have i2 := nIx (show i + 2 < L by omega) (by omega)
  have i3 := nIx (show i + 3 < L by omega) (by omega)
  have i4 := nIx (show i + 4 < L by omega) (by omega)
  have p2 : nI i + 2 = nI (i + 2) := nI_add i 2
  have p3 : nI i + 3 = nI (i + 3) := nI_add i 3
  have p4 : nI i + 4 = nI (i + 4) := nI_add i 4
  have p5 : nI i + 5 = nI (i + 5) := nI_add i 5
  obtain ⟨A, v, a0, hW, rr, hm, he, hs, T', hT1, hT2⟩ := id hw
  have sc : ∀ P, xarr M b P = P 0 L (fun k => .int (xs k)) := fun P => xhar hs.1
  subst a0
  have xO := cFx hW.1
  have hR := hW.1.1.2.2.1
  have hN := hW.1.1.2.1
  have hS := hW.1.1.2.2.2.1
  have hX := hW.1.1.2.2.2.2.1
  have h9 := hW.2.1.1.1.2.2.2
  have h7 := hW.2.1.1.1.2.2.1
  have h22 := hW.2.1.2.1.2.1.2.1
  have h34 := hW.2.1.2.1.2.1.2.2.2
  have hl := hW.2.2.2.2.2.2.2.1
  have hrt := hW.rt
  have hrv := hW.rv
  have hho : ∀ i, i < A 2 2 → ∃ B, B < 64 ∧ s.2 16 i = nI B := fun i hi => by
    obtain ⟨b', hb', e', _⟩ := hW.2.2.2.2.2.2.1.2.1 i hi
    exact ⟨b', hb', e'⟩
  refine XZ.runH 60 [692] ?_
  have sw9 : swt 9 692 [(0, 156), (1, 181), (2, 194), (3, 217), (4, 266), (5, 299), (6, 322), (7, 345), (8, 368), (9, 391), (10, 404), (11, 437), (12, 470), (13, 503), (14, 556), (15, 579), (16, 602), (17, 625), (18, 658), (19, 679)] = 391 := by decide
  simp only [n0, n12, t0, ↓xh, ↓xst, ↓xrunE, ↓rG, rL, rSt, updA, List.elem_nil, List.elem_cons, Nat.reduceBEq, Bool.false_eq_true, if_false, if_true, true_and, and_true, true_or, or_true, not_false_eq_true, Nat.reduceAdd, Nat.reduceSub, Nat.reduceLeDiff, Nat.reduceEqDiff, Nat.reduceLT, ↓reduceIte, List.length_cons, List.length_nil, List.set_cons_zero, List.set_cons_succ, Nat.le_refl, Nat.zero_le, Nat.zero_sub, Nat.sub_zero, List.nil_append, List.cons_append, Option.toList_some, Option.toList_none, eq_self, ↓sc, ofN, e, i0, x9, xsw_t, sw9, ↓xO]
  refine w12 (T := T') hW (by omega) hT2 (fun M1 A1 v1 nx1 hn a1 w1 f1 bk1 => ?_)
  have sc1 : ∀ P, xarr M1 b P = P 0 L (fun k => .int (xs k)) := fun P => xhar (by rw [f1 b (hW.lo hs.2).1 (hW.lo hs.2).2]; exact hs.1)
  have rr1 := rep_mv rr hm.2 f1
  refine XZ.runH 60 [692] ?_
  simp only [n0, n89, t0, ↓xh, ↓xst, ↓xrunE, ↓rG, rL, rSt, updA, List.elem_nil, List.elem_cons, Nat.reduceBEq, Bool.false_eq_true, if_false, if_true, true_and, and_true, true_or, or_true, not_false_eq_true, Nat.reduceAdd, Nat.reduceSub, Nat.reduceLeDiff, Nat.reduceEqDiff, Nat.reduceLT, ↓reduceIte, List.length_cons, List.length_nil, List.set_cons_zero, List.set_cons_succ, Nat.le_refl, Nat.zero_le, Nat.zero_sub, Nat.sub_zero, List.nil_append, List.cons_append, Option.toList_some, Option.toList_none, eq_self, ↓rO1 rr1.1]
  refine rc89 hm.1 rr1 hrv (fun M2 r2 => ?_)
  refine XZ.runH 60 [692] ?_
  simp only [n0, t0, ↓xh, ↓xst, ↓xrunE, ↓rG, rL, rSt, updA, List.elem_nil, List.elem_cons, Nat.reduceBEq, Bool.false_eq_true, if_false, if_true, true_and, and_true, true_or, or_true, not_false_eq_true, Nat.reduceAdd, Nat.reduceSub, Nat.reduceLeDiff, Nat.reduceEqDiff, Nat.reduceLT, ↓reduceIte, List.length_cons, List.length_nil, List.set_cons_zero, List.set_cons_succ, Nat.le_refl, Nat.zero_le, Nat.zero_sub, Nat.sub_zero, List.nil_append, List.cons_append, Option.toList_some, Option.toList_none, eq_self]
  exact back M2 nx1 _ _ _ (LW.st rfl hW rr hm he hs hn a1 w1 f1 bk1 r2 ⟨T' + 1, by omega, by rw [rTick_21, hT2, nI_1]⟩) (by omega) (by omega)
set_option maxRecDepth 100000 in
set_option maxHeartbeats 4000000 in
theorem lo10 (hL : L ≤ 2563) {i nx T cb sb : Nat} {M : xM} {s : rS} (hi : i + 5 ≤ L) (hc : 20 ≤ cb) (hsb : 220 ≤ sb) (hT : T < 600) (hw : LW E b L xs m nx M c s T) (x10 : xs i &&& 31 = 10) (back : ∀ M' nx' s' cb' sb', LW E b L xs m nx' M' c s' (T + 1) → cb ≤ cb' + 20 → sb ≤ sb' + 220 → XZ E 0 (xZ E 0 Q) 692 [some (.ref b), some (.ref c), some (.ref m), some (.int (nI i))] [] M' nx' cb' sb') : XZ E 0 (xZ E 0 Q) 48 [some (.ref b), some (.ref c), some (.ref m), some (.int (nI i))] [] M nx cb sb := by
  have e : ¬ nI L - 5 < nI i := by
    rw [show nI L - 5 = nI (L - 5) from nI_subn L 5 (by omega)]
    exact k2_nlt (nI_le (by omega) (by omega))
  have i0 := nIx (show i < L by omega) (by omega)
  have i1 := nIx (show i + 1 < L by omega) (by omega)
  have i2 := nIx (show i + 2 < L by omega) (by omega)
  have i3 := nIx (show i + 3 < L by omega) (by omega)
  have i4 := nIx (show i + 4 < L by omega) (by omega)
  have p2 : nI i + 2 = nI (i + 2) := nI_add i 2
  have p3 : nI i + 3 = nI (i + 3) := nI_add i 3
  have p4 : nI i + 4 = nI (i + 4) := nI_add i 4
  have p5 : nI i + 5 = nI (i + 5) := nI_add i 5
  obtain ⟨A, v, a0, hW, rr, hm, he, hs, T', hT1, hT2⟩ := id hw
  have sc : ∀ P, xarr M b P = P 0 L (fun k => .int (xs k)) := fun P => xhar hs.1
  subst a0
  have xO := cFx hW.1
  have hR := hW.1.1.2.2.1
  have hN := hW.1.1.2.1
  have hS := hW.1.1.2.2.2.1
  have hX := hW.1.1.2.2.2.2.1
  have h9 := hW.2.1.1.1.2.2.2
  have h7 := hW.2.1.1.1.2.2.1
  have h22 := hW.2.1.2.1.2.1.2.1
  have h34 := hW.2.1.2.1.2.1.2.2.2
  have hl := hW.2.2.2.2.2.2.2.1
  have hrt := hW.rt
  have hrv := hW.rv
  have hho : ∀ i, i < A 2 2 → ∃ B, B < 64 ∧ s.2 16 i = nI B := fun i hi => by
    obtain ⟨b', hb', e', _⟩ := hW.2.2.2.2.2.2.1.2.1 i hi
    exact ⟨b', hb', e'⟩
  refine XZ.runH 60 [692] ?_
  have sw10 : swt 10 692 [(0, 156), (1, 181), (2, 194), (3, 217), (4, 266), (5, 299), (6, 322), (7, 345), (8, 368), (9, 391), (10, 404), (11, 437), (12, 470), (13, 503), (14, 556), (15, 579), (16, 602), (17, 625), (18, 658), (19, 679)] = 404 := by decide
  simp only [n0, n13, t0, ↓xh, ↓xst, ↓xrunE, ↓rG, rL, rSt, updA, List.elem_nil, List.elem_cons, Nat.reduceBEq, Bool.false_eq_true, if_false, if_true, true_and, and_true, true_or, or_true, not_false_eq_true, Nat.reduceAdd, Nat.reduceSub, Nat.reduceLeDiff, Nat.reduceEqDiff, Nat.reduceLT, ↓reduceIte, List.length_cons, List.length_nil, List.set_cons_zero, List.set_cons_succ, Nat.le_refl, Nat.zero_le, Nat.zero_sub, Nat.sub_zero, List.nil_append, List.cons_append, Option.toList_some, Option.toList_none, eq_self, ↓sc, ofN, e, i0, x10, xsw_t, sw10, ↓xO, ↓sc, i1, nI_1, i2, p2]
  refine w13 hW (fun M1 A1 v1 nx1 hn a1 w1 f1 bk1 => ?_)
  have sc1 : ∀ P, xarr M1 b P = P 0 L (fun k => .int (xs k)) := fun P => xhar (by rw [f1 b (hW.lo hs.2).1 (hW.lo hs.2).2]; exact hs.1)
  have rr1 := rep_mv rr hm.2 f1
  refine XZ.runH 60 [692] ?_
  simp only [n0, n90, t0, ↓xh, ↓xst, ↓xrunE, ↓rG, rL, rSt, updA, List.elem_nil, List.elem_cons, Nat.reduceBEq, Bool.false_eq_true, if_false, if_true, true_and, and_true, true_or, or_true, not_false_eq_true, Nat.reduceAdd, Nat.reduceSub, Nat.reduceLeDiff, Nat.reduceEqDiff, Nat.reduceLT, ↓reduceIte, List.length_cons, List.length_nil, List.set_cons_zero, List.set_cons_succ, Nat.le_refl, Nat.zero_le, Nat.zero_sub, Nat.sub_zero, List.nil_append, List.cons_append, Option.toList_some, Option.toList_none, eq_self, ↓rO1 rr1.1, ↓sc1, i1, nI_1, i2, p2]
  refine rc90 rr1.1 hR h9 hN h7 ?_
  refine XZ.runH 60 [692] ?_
  simp only [n0, t0, ↓xh, ↓xst, ↓xrunE, ↓rG, rL, rSt, updA, List.elem_nil, List.elem_cons, Nat.reduceBEq, Bool.false_eq_true, if_false, if_true, true_and, and_true, true_or, or_true, not_false_eq_true, Nat.reduceAdd, Nat.reduceSub, Nat.reduceLeDiff, Nat.reduceEqDiff, Nat.reduceLT, ↓reduceIte, List.length_cons, List.length_nil, List.set_cons_zero, List.set_cons_succ, Nat.le_refl, Nat.zero_le, Nat.zero_sub, Nat.sub_zero, List.nil_append, List.cons_append, Option.toList_some, Option.toList_none, eq_self]
  exact back M1 nx1 _ _ _ (LW.st rfl hW rr hm he hs hn a1 w1 f1 bk1 rr1 ⟨T', by omega, hT2⟩) (by omega) (by omega)
set_option maxRecDepth 100000 in
set_option maxHeartbeats 4000000 in
theorem lo11 (hL : L ≤ 2563) {i nx T cb sb : Nat} {M : xM} {s : rS} (hi : i + 5 ≤ L) (hc : 20 ≤ cb) (hsb : 220 ≤ sb) (hT : T < 600) (hw : LW E b L xs m nx M c s T) (x11 : xs i &&& 31 = 11) (back : ∀ M' nx' s' cb' sb', LW E b L xs m nx' M' c s' (T + 1) → cb ≤ cb' + 20 → sb ≤ sb' + 220 → XZ E 0 (xZ E 0 Q) 692 [some (.ref b), some (.ref c), some (.ref m), some (.int (nI i))] [] M' nx' cb' sb') : XZ E 0 (xZ E 0 Q) 48 [some (.ref b), some (.ref c), some (.ref m), some (.int (nI i))] [] M nx cb sb := by
  have e : ¬ nI L - 5 < nI i := by
    rw [show nI L - 5 = nI (L - 5) from nI_subn L 5 (by omega)]
    exact k2_nlt (nI_le (by omega) (by omega))
  have i0 := nIx (show i < L by omega) (by omega)
  have i1 := nIx (show i + 1 < L by omega) (by omega)
  have i2 := nIx (show i + 2 < L by omega) (by omega)
  have i3 := nIx (show i + 3 < L by omega) (by omega)
  have i4 := nIx (show i + 4 < L by omega) (by omega)
  have p2 : nI i + 2 = nI (i + 2) := nI_add i 2
  have p3 : nI i + 3 = nI (i + 3) := nI_add i 3
  have p4 : nI i + 4 = nI (i + 4) := nI_add i 4
  have p5 : nI i + 5 = nI (i + 5) := nI_add i 5
  obtain ⟨A, v, a0, hW, rr, hm, he, hs, T', hT1, hT2⟩ := id hw
  have sc : ∀ P, xarr M b P = P 0 L (fun k => .int (xs k)) := fun P => xhar hs.1
  subst a0
  have xO := cFx hW.1
  have hR := hW.1.1.2.2.1
  have hN := hW.1.1.2.1
  have hS := hW.1.1.2.2.2.1
  have hX := hW.1.1.2.2.2.2.1
  have h9 := hW.2.1.1.1.2.2.2
  have h7 := hW.2.1.1.1.2.2.1
  have h22 := hW.2.1.2.1.2.1.2.1
  have h34 := hW.2.1.2.1.2.1.2.2.2
  have hl := hW.2.2.2.2.2.2.2.1
  have hrt := hW.rt
  have hrv := hW.rv
  have hho : ∀ i, i < A 2 2 → ∃ B, B < 64 ∧ s.2 16 i = nI B := fun i hi => by
    obtain ⟨b', hb', e', _⟩ := hW.2.2.2.2.2.2.1.2.1 i hi
    exact ⟨b', hb', e'⟩
  refine XZ.runH 60 [692] ?_
  have sw11 : swt 11 692 [(0, 156), (1, 181), (2, 194), (3, 217), (4, 266), (5, 299), (6, 322), (7, 345), (8, 368), (9, 391), (10, 404), (11, 437), (12, 470), (13, 503), (14, 556), (15, 579), (16, 602), (17, 625), (18, 658), (19, 679)] = 437 := by decide
  simp only [n0, n14, t0, ↓xh, ↓xst, ↓xrunE, ↓rG, rL, rSt, updA, List.elem_nil, List.elem_cons, Nat.reduceBEq, Bool.false_eq_true, if_false, if_true, true_and, and_true, true_or, or_true, not_false_eq_true, Nat.reduceAdd, Nat.reduceSub, Nat.reduceLeDiff, Nat.reduceEqDiff, Nat.reduceLT, ↓reduceIte, List.length_cons, List.length_nil, List.set_cons_zero, List.set_cons_succ, Nat.le_refl, Nat.zero_le, Nat.zero_sub, Nat.sub_zero, List.nil_append, List.cons_append, Option.toList_some, Option.toList_none, eq_self, ↓sc, ofN, e, i0, x11, xsw_t, sw11, ↓xO, ↓sc, i1, nI_1, i2, p2]
  refine w14 hW (fun M1 A1 v1 nx1 hn a1 w1 f1 bk1 => ?_)
  have sc1 : ∀ P, xarr M1 b P = P 0 L (fun k => .int (xs k)) := fun P => xhar (by rw [f1 b (hW.lo hs.2).1 (hW.lo hs.2).2]; exact hs.1)
  have rr1 := rep_mv rr hm.2 f1
  refine XZ.runH 60 [692] ?_
  simp only [n0, n91, t0, ↓xh, ↓xst, ↓xrunE, ↓rG, rL, rSt, updA, List.elem_nil, List.elem_cons, Nat.reduceBEq, Bool.false_eq_true, if_false, if_true, true_and, and_true, true_or, or_true, not_false_eq_true, Nat.reduceAdd, Nat.reduceSub, Nat.reduceLeDiff, Nat.reduceEqDiff, Nat.reduceLT, ↓reduceIte, List.length_cons, List.length_nil, List.set_cons_zero, List.set_cons_succ, Nat.le_refl, Nat.zero_le, Nat.zero_sub, Nat.sub_zero, List.nil_append, List.cons_append, Option.toList_some, Option.toList_none, eq_self, ↓rO1 rr1.1, ↓sc1, i1, nI_1, i2, p2]
  refine rc91 rr1.1 hR h9 hN h7 hrt ?_
  refine XZ.runH 60 [692] ?_
  simp only [n0, t0, ↓xh, ↓xst, ↓xrunE, ↓rG, rL, rSt, updA, List.elem_nil, List.elem_cons, Nat.reduceBEq, Bool.false_eq_true, if_false, if_true, true_and, and_true, true_or, or_true, not_false_eq_true, Nat.reduceAdd, Nat.reduceSub, Nat.reduceLeDiff, Nat.reduceEqDiff, Nat.reduceLT, ↓reduceIte, List.length_cons, List.length_nil, List.set_cons_zero, List.set_cons_succ, Nat.le_refl, Nat.zero_le, Nat.zero_sub, Nat.sub_zero, List.nil_append, List.cons_append, Option.toList_some, Option.toList_none, eq_self]
  exact back M1 nx1 _ _ _ (LW.st rfl hW rr hm he hs hn a1 w1 f1 bk1 rr1 ⟨T', by omega, hT2⟩) (by omega) (by omega)
set_option maxRecDepth 100000 in
set_option maxHeartbeats 4000000 in
theorem lo12 (hL : L ≤ 2563) {i nx T cb sb : Nat} {M : xM} {s : rS} (hi : i + 5 ≤ L) (hc : 20 ≤ cb) (hsb : 220 ≤ sb) (hT : T < 600) (hw : LW E b L xs m nx M c s T) (x12 : xs i &&& 31 = 12) (back : ∀ M' nx' s' cb' sb', LW E b L xs m nx' M' c s' (T + 1) → cb ≤ cb' + 20 → sb ≤ sb' + 220 → XZ E 0 (xZ E 0 Q) 692 [some (.ref b), some (.ref c), some (.ref m), some (.int (nI i))] [] M' nx' cb' sb') : XZ E 0 (xZ E 0 Q) 48 [some (.ref b), some (.ref c), some (.ref m), some (.int (nI i))] [] M nx cb sb := by
  have e : ¬ nI L - 5 < nI i := by
    rw [show nI L - 5 = nI (L - 5) from nI_subn L 5 (by omega)]
    exact k2_nlt (nI_le (by omega) (by omega))
  have i0 := nIx (show i < L by omega) (by omega)
  have i1 := nIx (show i + 1 < L by omega) (by omega)
  have i2 := nIx (show i + 2 < L by omega) (by omega)
  have i3 := nIx (show i + 3 < L by omega) (by omega)
  have i4 := nIx (show i + 4 < L by omega) (by omega)
  have p2 : nI i + 2 = nI (i + 2) := nI_add i 2
  have p3 : nI i + 3 = nI (i + 3) := nI_add i 3
  have p4 : nI i + 4 = nI (i + 4) := nI_add i 4
  have p5 : nI i + 5 = nI (i + 5) := nI_add i 5
  obtain ⟨A, v, a0, hW, rr, hm, he, hs, T', hT1, hT2⟩ := id hw
  have sc : ∀ P, xarr M b P = P 0 L (fun k => .int (xs k)) := fun P => xhar hs.1
  subst a0
  have xO := cFx hW.1
  have hR := hW.1.1.2.2.1
  have hN := hW.1.1.2.1
  have hS := hW.1.1.2.2.2.1
  have hX := hW.1.1.2.2.2.2.1
  have h9 := hW.2.1.1.1.2.2.2
  have h7 := hW.2.1.1.1.2.2.1
  have h22 := hW.2.1.2.1.2.1.2.1
  have h34 := hW.2.1.2.1.2.1.2.2.2
  have hl := hW.2.2.2.2.2.2.2.1
  have hrt := hW.rt
  have hrv := hW.rv
  have hho : ∀ i, i < A 2 2 → ∃ B, B < 64 ∧ s.2 16 i = nI B := fun i hi => by
    obtain ⟨b', hb', e', _⟩ := hW.2.2.2.2.2.2.1.2.1 i hi
    exact ⟨b', hb', e'⟩
  refine XZ.runH 60 [692] ?_
  have sw12 : swt 12 692 [(0, 156), (1, 181), (2, 194), (3, 217), (4, 266), (5, 299), (6, 322), (7, 345), (8, 368), (9, 391), (10, 404), (11, 437), (12, 470), (13, 503), (14, 556), (15, 579), (16, 602), (17, 625), (18, 658), (19, 679)] = 470 := by decide
  simp only [n0, n15, t0, ↓xh, ↓xst, ↓xrunE, ↓rG, rL, rSt, updA, List.elem_nil, List.elem_cons, Nat.reduceBEq, Bool.false_eq_true, if_false, if_true, true_and, and_true, true_or, or_true, not_false_eq_true, Nat.reduceAdd, Nat.reduceSub, Nat.reduceLeDiff, Nat.reduceEqDiff, Nat.reduceLT, ↓reduceIte, List.length_cons, List.length_nil, List.set_cons_zero, List.set_cons_succ, Nat.le_refl, Nat.zero_le, Nat.zero_sub, Nat.sub_zero, List.nil_append, List.cons_append, Option.toList_some, Option.toList_none, eq_self, ↓sc, ofN, e, i0, x12, xsw_t, sw12, ↓xO, ↓sc, i1, nI_1, i2, p2, show 1 ≤ cb by omega, show 13 ≤ sb by omega]
  refine w15 hW (fun M1 A1 v1 nx1 hn a1 w1 f1 bk1 => ?_)
  have sc1 : ∀ P, xarr M1 b P = P 0 L (fun k => .int (xs k)) := fun P => xhar (by rw [f1 b (hW.lo hs.2).1 (hW.lo hs.2).2]; exact hs.1)
  have rr1 := rep_mv rr hm.2 f1
  refine XZ.runH 60 [692] ?_
  simp only [n0, n92, t0, ↓xh, ↓xst, ↓xrunE, ↓rG, rL, rSt, updA, List.elem_nil, List.elem_cons, Nat.reduceBEq, Bool.false_eq_true, if_false, if_true, true_and, and_true, true_or, or_true, not_false_eq_true, Nat.reduceAdd, Nat.reduceSub, Nat.reduceLeDiff, Nat.reduceEqDiff, Nat.reduceLT, ↓reduceIte, List.length_cons, List.length_nil, List.set_cons_zero, List.set_cons_succ, Nat.le_refl, Nat.zero_le, Nat.zero_sub, Nat.sub_zero, List.nil_append, List.cons_append, Option.toList_some, Option.toList_none, eq_self, ↓rO1 rr1.1, ↓sc1, i1, nI_1, i2, p2]
  refine rc92 hm.1 rr1 hR h9 hrt hS h22 hX h34 hho (fun M2 r2 => ?_)
  refine XZ.runH 60 [692] ?_
  simp only [n0, t0, ↓xh, ↓xst, ↓xrunE, ↓rG, rL, rSt, updA, List.elem_nil, List.elem_cons, Nat.reduceBEq, Bool.false_eq_true, if_false, if_true, true_and, and_true, true_or, or_true, not_false_eq_true, Nat.reduceAdd, Nat.reduceSub, Nat.reduceLeDiff, Nat.reduceEqDiff, Nat.reduceLT, ↓reduceIte, List.length_cons, List.length_nil, List.set_cons_zero, List.set_cons_succ, Nat.le_refl, Nat.zero_le, Nat.zero_sub, Nat.sub_zero, List.nil_append, List.cons_append, Option.toList_some, Option.toList_none, eq_self]
  exact back M2 nx1 _ _ _ (LW.st rfl hW rr hm he hs hn a1 w1 f1 bk1 r2 ⟨T', by omega, (e21S s _ _ _ _ _).trans hT2⟩) (by omega) (by omega)
set_option maxRecDepth 100000 in
set_option maxHeartbeats 4000000 in
theorem lo13 (hL : L ≤ 2563) {i nx T cb sb : Nat} {M : xM} {s : rS} (hi : i + 5 ≤ L) (hc : 20 ≤ cb) (hsb : 220 ≤ sb) (hT : T < 600) (hw : LW E b L xs m nx M c s T) (x13 : xs i &&& 31 = 13) (back : ∀ M' nx' s' cb' sb', LW E b L xs m nx' M' c s' (T + 1) → cb ≤ cb' + 20 → sb ≤ sb' + 220 → XZ E 0 (xZ E 0 Q) 692 [some (.ref b), some (.ref c), some (.ref m), some (.int (nI i))] [] M' nx' cb' sb') : XZ E 0 (xZ E 0 Q) 48 [some (.ref b), some (.ref c), some (.ref m), some (.int (nI i))] [] M nx cb sb := by
  have e : ¬ nI L - 5 < nI i := by
    rw [show nI L - 5 = nI (L - 5) from nI_subn L 5 (by omega)]
    exact k2_nlt (nI_le (by omega) (by omega))
  have i0 := nIx (show i < L by omega) (by omega)
  have i1 := nIx (show i + 1 < L by omega) (by omega)
  have i2 := nIx (show i + 2 < L by omega) (by omega)
  have i3 := nIx (show i + 3 < L by omega) (by omega)
  have i4 := nIx (show i + 4 < L by omega) (by omega)
  have p2 : nI i + 2 = nI (i + 2) := nI_add i 2
  have p3 : nI i + 3 = nI (i + 3) := nI_add i 3
  have p4 : nI i + 4 = nI (i + 4) := nI_add i 4
  have p5 : nI i + 5 = nI (i + 5) := nI_add i 5
  obtain ⟨A, v, a0, hW, rr, hm, he, hs, T', hT1, hT2⟩ := id hw
  have sc : ∀ P, xarr M b P = P 0 L (fun k => .int (xs k)) := fun P => xhar hs.1
  subst a0
  have xO := cFx hW.1
  have hR := hW.1.1.2.2.1
  have hN := hW.1.1.2.1
  have hS := hW.1.1.2.2.2.1
  have hX := hW.1.1.2.2.2.2.1
  have h9 := hW.2.1.1.1.2.2.2
  have h7 := hW.2.1.1.1.2.2.1
  have h22 := hW.2.1.2.1.2.1.2.1
  have h34 := hW.2.1.2.1.2.1.2.2.2
  have hl := hW.2.2.2.2.2.2.2.1
  have hrt := hW.rt
  have hrv := hW.rv
  have hho : ∀ i, i < A 2 2 → ∃ B, B < 64 ∧ s.2 16 i = nI B := fun i hi => by
    obtain ⟨b', hb', e', _⟩ := hW.2.2.2.2.2.2.1.2.1 i hi
    exact ⟨b', hb', e'⟩
  refine XZ.runH 60 [692] ?_
  have sw13 : swt 13 692 [(0, 156), (1, 181), (2, 194), (3, 217), (4, 266), (5, 299), (6, 322), (7, 345), (8, 368), (9, 391), (10, 404), (11, 437), (12, 470), (13, 503), (14, 556), (15, 579), (16, 602), (17, 625), (18, 658), (19, 679)] = 503 := by decide
  simp only [n0, n16, t0, ↓xh, ↓xst, ↓xrunE, ↓rG, rL, rSt, updA, List.elem_nil, List.elem_cons, Nat.reduceBEq, Bool.false_eq_true, if_false, if_true, true_and, and_true, true_or, or_true, not_false_eq_true, Nat.reduceAdd, Nat.reduceSub, Nat.reduceLeDiff, Nat.reduceEqDiff, Nat.reduceLT, ↓reduceIte, List.length_cons, List.length_nil, List.set_cons_zero, List.set_cons_succ, Nat.le_refl, Nat.zero_le, Nat.zero_sub, Nat.sub_zero, List.nil_append, List.cons_append, Option.toList_some, Option.toList_none, eq_self, ↓sc, ofN, e, i0, x13, xsw_t, sw13, ↓xO, ↓sc, i1, nI_1, i2, p2, i3, i4, p3, p4]
  refine w16 hW (fun M1 A1 v1 nx1 hn a1 w1 f1 bk1 => ?_)
  have sc1 : ∀ P, xarr M1 b P = P 0 L (fun k => .int (xs k)) := fun P => xhar (by rw [f1 b (hW.lo hs.2).1 (hW.lo hs.2).2]; exact hs.1)
  have rr1 := rep_mv rr hm.2 f1
  refine XZ.runH 60 [692] ?_
  simp only [n0, n93, t0, ↓xh, ↓xst, ↓xrunE, ↓rG, rL, rSt, updA, List.elem_nil, List.elem_cons, Nat.reduceBEq, Bool.false_eq_true, if_false, if_true, true_and, and_true, true_or, or_true, not_false_eq_true, Nat.reduceAdd, Nat.reduceSub, Nat.reduceLeDiff, Nat.reduceEqDiff, Nat.reduceLT, ↓reduceIte, List.length_cons, List.length_nil, List.set_cons_zero, List.set_cons_succ, Nat.le_refl, Nat.zero_le, Nat.zero_sub, Nat.sub_zero, List.nil_append, List.cons_append, Option.toList_some, Option.toList_none, eq_self, ↓rO1 rr1.1, ↓sc1, i1, nI_1, i2, p2, i3, i4, p3, p4]
  refine rc93 hm.1 rr1 hR h9 hrt hX h34 (fun c hc => (hrv.2.2.2.2.2 c hc).1) hrv.2.2.2.2.1 (fun M2 r2 => ?_)
  refine XZ.runH 60 [692] ?_
  simp only [n0, t0, ↓xh, ↓xst, ↓xrunE, ↓rG, rL, rSt, updA, List.elem_nil, List.elem_cons, Nat.reduceBEq, Bool.false_eq_true, if_false, if_true, true_and, and_true, true_or, or_true, not_false_eq_true, Nat.reduceAdd, Nat.reduceSub, Nat.reduceLeDiff, Nat.reduceEqDiff, Nat.reduceLT, ↓reduceIte, List.length_cons, List.length_nil, List.set_cons_zero, List.set_cons_succ, Nat.le_refl, Nat.zero_le, Nat.zero_sub, Nat.sub_zero, List.nil_append, List.cons_append, Option.toList_some, Option.toList_none, eq_self]
  exact back M2 nx1 _ _ _ (LW.st rfl hW rr hm he hs hn a1 w1 f1 bk1 r2 ⟨T', by omega, (e21C s _ _ _ _ _).trans hT2⟩) (by omega) (by omega)
set_option maxRecDepth 100000 in
set_option maxHeartbeats 4000000 in
theorem lo14 (hL : L ≤ 2563) {i nx T cb sb : Nat} {M : xM} {s : rS} (hi : i + 5 ≤ L) (hc : 20 ≤ cb) (hsb : 220 ≤ sb) (hT : T < 600) (hw : LW E b L xs m nx M c s T) (x14 : xs i &&& 31 = 14) (back : ∀ M' nx' s' cb' sb', LW E b L xs m nx' M' c s' (T + 1) → cb ≤ cb' + 20 → sb ≤ sb' + 220 → XZ E 0 (xZ E 0 Q) 692 [some (.ref b), some (.ref c), some (.ref m), some (.int (nI i))] [] M' nx' cb' sb') : XZ E 0 (xZ E 0 Q) 48 [some (.ref b), some (.ref c), some (.ref m), some (.int (nI i))] [] M nx cb sb := by
  have e : ¬ nI L - 5 < nI i := by
    rw [show nI L - 5 = nI (L - 5) from nI_subn L 5 (by omega)]
    exact k2_nlt (nI_le (by omega) (by omega))
  have i0 := nIx (show i < L by omega) (by omega)
  have i1 := nIx (show i + 1 < L by omega) (by omega)
  have i2 := nIx (show i + 2 < L by omega) (by omega)
  have i3 := nIx (show i + 3 < L by omega) (by omega)
  have i4 := nIx (show i + 4 < L by omega) (by omega)
  have p2 : nI i + 2 = nI (i + 2) := nI_add i 2
  have p3 : nI i + 3 = nI (i + 3) := nI_add i 3
  have p4 : nI i + 4 = nI (i + 4) := nI_add i 4
  have p5 : nI i + 5 = nI (i + 5) := nI_add i 5
  obtain ⟨A, v, a0, hW, rr, hm, he, hs, T', hT1, hT2⟩ := id hw
  have sc : ∀ P, xarr M b P = P 0 L (fun k => .int (xs k)) := fun P => xhar hs.1
  subst a0
  have xO := cFx hW.1
  have hR := hW.1.1.2.2.1
  have hN := hW.1.1.2.1
  have hS := hW.1.1.2.2.2.1
  have hX := hW.1.1.2.2.2.2.1
  have h9 := hW.2.1.1.1.2.2.2
  have h7 := hW.2.1.1.1.2.2.1
  have h22 := hW.2.1.2.1.2.1.2.1
  have h34 := hW.2.1.2.1.2.1.2.2.2
  have hl := hW.2.2.2.2.2.2.2.1
  have hrt := hW.rt
  have hrv := hW.rv
  have hho : ∀ i, i < A 2 2 → ∃ B, B < 64 ∧ s.2 16 i = nI B := fun i hi => by
    obtain ⟨b', hb', e', _⟩ := hW.2.2.2.2.2.2.1.2.1 i hi
    exact ⟨b', hb', e'⟩
  refine XZ.runH 60 [692] ?_
  have sw14 : swt 14 692 [(0, 156), (1, 181), (2, 194), (3, 217), (4, 266), (5, 299), (6, 322), (7, 345), (8, 368), (9, 391), (10, 404), (11, 437), (12, 470), (13, 503), (14, 556), (15, 579), (16, 602), (17, 625), (18, 658), (19, 679)] = 556 := by decide
  simp only [n0, n17, t0, ↓xh, ↓xst, ↓xrunE, ↓rG, rL, rSt, updA, List.elem_nil, List.elem_cons, Nat.reduceBEq, Bool.false_eq_true, if_false, if_true, true_and, and_true, true_or, or_true, not_false_eq_true, Nat.reduceAdd, Nat.reduceSub, Nat.reduceLeDiff, Nat.reduceEqDiff, Nat.reduceLT, ↓reduceIte, List.length_cons, List.length_nil, List.set_cons_zero, List.set_cons_succ, Nat.le_refl, Nat.zero_le, Nat.zero_sub, Nat.sub_zero, List.nil_append, List.cons_append, Option.toList_some, Option.toList_none, eq_self, ↓sc, ofN, e, i0, x14, xsw_t, sw14, ↓xO, ↓sc, i1, nI_1]
  refine w17 hW (fun M1 A1 v1 nx1 hn a1 w1 f1 bk1 => ?_)
  have sc1 : ∀ P, xarr M1 b P = P 0 L (fun k => .int (xs k)) := fun P => xhar (by rw [f1 b (hW.lo hs.2).1 (hW.lo hs.2).2]; exact hs.1)
  have rr1 := rep_mv rr hm.2 f1
  refine XZ.runH 60 [692] ?_
  simp only [n0, n94, t0, ↓xh, ↓xst, ↓xrunE, ↓rG, rL, rSt, updA, List.elem_nil, List.elem_cons, Nat.reduceBEq, Bool.false_eq_true, if_false, if_true, true_and, and_true, true_or, or_true, not_false_eq_true, Nat.reduceAdd, Nat.reduceSub, Nat.reduceLeDiff, Nat.reduceEqDiff, Nat.reduceLT, ↓reduceIte, List.length_cons, List.length_nil, List.set_cons_zero, List.set_cons_succ, Nat.le_refl, Nat.zero_le, Nat.zero_sub, Nat.sub_zero, List.nil_append, List.cons_append, Option.toList_some, Option.toList_none, eq_self, ↓rO1 rr1.1, ↓sc1, i1, nI_1]
  refine rc94 rr1.1 hX h34 ?_
  refine XZ.runH 60 [692] ?_
  simp only [n0, t0, ↓xh, ↓xst, ↓xrunE, ↓rG, rL, rSt, updA, List.elem_nil, List.elem_cons, Nat.reduceBEq, Bool.false_eq_true, if_false, if_true, true_and, and_true, true_or, or_true, not_false_eq_true, Nat.reduceAdd, Nat.reduceSub, Nat.reduceLeDiff, Nat.reduceEqDiff, Nat.reduceLT, ↓reduceIte, List.length_cons, List.length_nil, List.set_cons_zero, List.set_cons_succ, Nat.le_refl, Nat.zero_le, Nat.zero_sub, Nat.sub_zero, List.nil_append, List.cons_append, Option.toList_some, Option.toList_none, eq_self]
  exact back M1 nx1 _ _ _ (LW.st rfl hW rr hm he hs hn a1 w1 f1 bk1 rr1 ⟨T', by omega, hT2⟩) (by omega) (by omega)
set_option maxRecDepth 100000 in
set_option maxHeartbeats 4000000 in
theorem lo15 (hL : L ≤ 2563) {i nx T cb sb : Nat} {M : xM} {s : rS} (hi : i + 5 ≤ L) (hc : 20 ≤ cb) (hsb : 220 ≤ sb) (hT : T < 600) (hw : LW E b L xs m nx M c s T) (x15 : xs i &&& 31 = 15) (back : ∀ M' nx' s' cb' sb', LW E b L xs m nx' M' c s' (T + 1) → cb ≤ cb' + 20 → sb ≤ sb' + 220 → XZ E 0 (xZ E 0 Q) 692 [some (.ref b), some (.ref c), some (.ref m), some (.int (nI i))] [] M' nx' cb' sb') : XZ E 0 (xZ E 0 Q) 48 [some (.ref b), some (.ref c), some (.ref m), some (.int (nI i))] [] M nx cb sb := by
  have e : ¬ nI L - 5 < nI i := by
    rw [show nI L - 5 = nI (L - 5) from nI_subn L 5 (by omega)]
    exact k2_nlt (nI_le (by omega) (by omega))
  have i0 := nIx (show i < L by omega) (by omega)
  have i1 := nIx (show i + 1 < L by omega) (by omega)
  have i2 := nIx (show i + 2 < L by omega) (by omega)
  have i3 := nIx (show i + 3 < L by omega) (by omega)
  have i4 := nIx (show i + 4 < L by omega) (by omega)
  have p2 : nI i + 2 = nI (i + 2) := nI_add i 2
  have p3 : nI i + 3 = nI (i + 3) := nI_add i 3
  have p4 : nI i + 4 = nI (i + 4) := nI_add i 4
  have p5 : nI i + 5 = nI (i + 5) := nI_add i 5
  obtain ⟨A, v, a0, hW, rr, hm, he, hs, T', hT1, hT2⟩ := id hw
  have sc : ∀ P, xarr M b P = P 0 L (fun k => .int (xs k)) := fun P => xhar hs.1
  subst a0
  have xO := cFx hW.1
  have hR := hW.1.1.2.2.1
  have hN := hW.1.1.2.1
  have hS := hW.1.1.2.2.2.1
  have hX := hW.1.1.2.2.2.2.1
  have h9 := hW.2.1.1.1.2.2.2
  have h7 := hW.2.1.1.1.2.2.1
  have h22 := hW.2.1.2.1.2.1.2.1
  have h34 := hW.2.1.2.1.2.1.2.2.2
  have hl := hW.2.2.2.2.2.2.2.1
  have hrt := hW.rt
  have hrv := hW.rv
  have hho : ∀ i, i < A 2 2 → ∃ B, B < 64 ∧ s.2 16 i = nI B := fun i hi => by
    obtain ⟨b', hb', e', _⟩ := hW.2.2.2.2.2.2.1.2.1 i hi
    exact ⟨b', hb', e'⟩
  refine XZ.runH 60 [692] ?_
  have sw15 : swt 15 692 [(0, 156), (1, 181), (2, 194), (3, 217), (4, 266), (5, 299), (6, 322), (7, 345), (8, 368), (9, 391), (10, 404), (11, 437), (12, 470), (13, 503), (14, 556), (15, 579), (16, 602), (17, 625), (18, 658), (19, 679)] = 579 := by decide
  simp only [n0, n18, t0, ↓xh, ↓xst, ↓xrunE, ↓rG, rL, rSt, updA, List.elem_nil, List.elem_cons, Nat.reduceBEq, Bool.false_eq_true, if_false, if_true, true_and, and_true, true_or, or_true, not_false_eq_true, Nat.reduceAdd, Nat.reduceSub, Nat.reduceLeDiff, Nat.reduceEqDiff, Nat.reduceLT, ↓reduceIte, List.length_cons, List.length_nil, List.set_cons_zero, List.set_cons_succ, Nat.le_refl, Nat.zero_le, Nat.zero_sub, Nat.sub_zero, List.nil_append, List.cons_append, Option.toList_some, Option.toList_none, eq_self, ↓sc, ofN, e, i0, x15, xsw_t, sw15, ↓xO, ↓sc, i1, nI_1]
  refine w18 hW (fun M1 A1 v1 nx1 hn a1 w1 f1 bk1 => ?_)
  have sc1 : ∀ P, xarr M1 b P = P 0 L (fun k => .int (xs k)) := fun P => xhar (by rw [f1 b (hW.lo hs.2).1 (hW.lo hs.2).2]; exact hs.1)
  have rr1 := rep_mv rr hm.2 f1
  refine XZ.runH 60 [692] ?_
  simp only [n0, n95, t0, ↓xh, ↓xst, ↓xrunE, ↓rG, rL, rSt, updA, List.elem_nil, List.elem_cons, Nat.reduceBEq, Bool.false_eq_true, if_false, if_true, true_and, and_true, true_or, or_true, not_false_eq_true, Nat.reduceAdd, Nat.reduceSub, Nat.reduceLeDiff, Nat.reduceEqDiff, Nat.reduceLT, ↓reduceIte, List.length_cons, List.length_nil, List.set_cons_zero, List.set_cons_succ, Nat.le_refl, Nat.zero_le, Nat.zero_sub, Nat.sub_zero, List.nil_append, List.cons_append, Option.toList_some, Option.toList_none, eq_self, ↓rO1 rr1.1, ↓sc1, i1, nI_1]
  refine rc95 rr1.1 hX h34 ?_
  refine XZ.runH 60 [692] ?_
  simp only [n0, t0, ↓xh, ↓xst, ↓xrunE, ↓rG, rL, rSt, updA, List.elem_nil, List.elem_cons, Nat.reduceBEq, Bool.false_eq_true, if_false, if_true, true_and, and_true, true_or, or_true, not_false_eq_true, Nat.reduceAdd, Nat.reduceSub, Nat.reduceLeDiff, Nat.reduceEqDiff, Nat.reduceLT, ↓reduceIte, List.length_cons, List.length_nil, List.set_cons_zero, List.set_cons_succ, Nat.le_refl, Nat.zero_le, Nat.zero_sub, Nat.sub_zero, List.nil_append, List.cons_append, Option.toList_some, Option.toList_none, eq_self]
  exact back M1 nx1 _ _ _ (LW.st rfl hW rr hm he hs hn a1 w1 f1 bk1 rr1 ⟨T', by omega, hT2⟩) (by omega) (by omega)
set_option maxRecDepth 100000 in
set_option maxHeartbeats 4000000 in
theorem lo16 (hL : L ≤ 2563) {i nx T cb sb : Nat} {M : xM} {s : rS} (hi : i + 5 ≤ L) (hc : 20 ≤ cb) (hsb : 220 ≤ sb) (hT : T < 600) (hw : LW E b L xs m nx M c s T) (x16 : xs i &&& 31 = 16) (back : ∀ M' nx' s' cb' sb', LW E b L xs m nx' M' c s' (T + 1) → cb ≤ cb' + 20 → sb ≤ sb' + 220 → XZ E 0 (xZ E 0 Q) 692 [some (.ref b), some (.ref c), some (.ref m), some (.int (nI i))] [] M' nx' cb' sb') : XZ E 0 (xZ E 0 Q) 48 [some (.ref b), some (.ref c), some (.ref m), some (.int (nI i))] [] M nx cb sb := by
  have e : ¬ nI L - 5 < nI i := by
    rw [show nI L - 5 = nI (L - 5) from nI_subn L 5 (by omega)]
    exact k2_nlt (nI_le (by omega) (by omega))
  have i0 := nIx (show i < L by omega) (by omega)
  have i1 := nIx (show i + 1 < L by omega) (by omega)
  have i2 := nIx (show i + 2 < L by omega) (by omega)
  have i3 := nIx (show i + 3 < L by omega) (by omega)
  have i4 := nIx (show i + 4 < L by omega) (by omega)
  have p2 : nI i + 2 = nI (i + 2) := nI_add i 2
  have p3 : nI i + 3 = nI (i + 3) := nI_add i 3
  have p4 : nI i + 4 = nI (i + 4) := nI_add i 4
  have p5 : nI i + 5 = nI (i + 5) := nI_add i 5
  obtain ⟨A, v, a0, hW, rr, hm, he, hs, T', hT1, hT2⟩ := id hw
  have sc : ∀ P, xarr M b P = P 0 L (fun k => .int (xs k)) := fun P => xhar hs.1
  subst a0
  have xO := cFx hW.1
  have hR := hW.1.1.2.2.1
  have hN := hW.1.1.2.1
  have hS := hW.1.1.2.2.2.1
  have hX := hW.1.1.2.2.2.2.1
  have h9 := hW.2.1.1.1.2.2.2
  have h7 := hW.2.1.1.1.2.2.1
  have h22 := hW.2.1.2.1.2.1.2.1
  have h34 := hW.2.1.2.1.2.1.2.2.2
  have hl := hW.2.2.2.2.2.2.2.1
  have hrt := hW.rt
  have hrv := hW.rv
  have hho : ∀ i, i < A 2 2 → ∃ B, B < 64 ∧ s.2 16 i = nI B := fun i hi => by
    obtain ⟨b', hb', e', _⟩ := hW.2.2.2.2.2.2.1.2.1 i hi
    exact ⟨b', hb', e'⟩
  refine XZ.runH 60 [692] ?_
  have sw16 : swt 16 692 [(0, 156), (1, 181), (2, 194), (3, 217), (4, 266), (5, 299), (6, 322), (7, 345), (8, 368), (9, 391), (10, 404), (11, 437), (12, 470), (13, 503), (14, 556), (15, 579), (16, 602), (17, 625), (18, 658), (19, 679)] = 602 := by decide
  simp only [n0, n19, t0, ↓xh, ↓xst, ↓xrunE, ↓rG, rL, rSt, updA, List.elem_nil, List.elem_cons, Nat.reduceBEq, Bool.false_eq_true, if_false, if_true, true_and, and_true, true_or, or_true, not_false_eq_true, Nat.reduceAdd, Nat.reduceSub, Nat.reduceLeDiff, Nat.reduceEqDiff, Nat.reduceLT, ↓reduceIte, List.length_cons, List.length_nil, List.set_cons_zero, List.set_cons_succ, Nat.le_refl, Nat.zero_le, Nat.zero_sub, Nat.sub_zero, List.nil_append, List.cons_append, Option.toList_some, Option.toList_none, eq_self, ↓sc, ofN, e, i0, x16, xsw_t, sw16, ↓xO, ↓sc, i1, nI_1]
  refine w19 hW (fun M1 A1 v1 nx1 hn a1 w1 f1 bk1 => ?_)
  have sc1 : ∀ P, xarr M1 b P = P 0 L (fun k => .int (xs k)) := fun P => xhar (by rw [f1 b (hW.lo hs.2).1 (hW.lo hs.2).2]; exact hs.1)
  have rr1 := rep_mv rr hm.2 f1
  refine XZ.runH 60 [692] ?_
  simp only [n0, n96, t0, ↓xh, ↓xst, ↓xrunE, ↓rG, rL, rSt, updA, List.elem_nil, List.elem_cons, Nat.reduceBEq, Bool.false_eq_true, if_false, if_true, true_and, and_true, true_or, or_true, not_false_eq_true, Nat.reduceAdd, Nat.reduceSub, Nat.reduceLeDiff, Nat.reduceEqDiff, Nat.reduceLT, ↓reduceIte, List.length_cons, List.length_nil, List.set_cons_zero, List.set_cons_succ, Nat.le_refl, Nat.zero_le, Nat.zero_sub, Nat.sub_zero, List.nil_append, List.cons_append, Option.toList_some, Option.toList_none, eq_self, ↓rO1 rr1.1, ↓sc1, i1, nI_1]
  refine rc96 rr1.1 hX h34 ?_
  refine XZ.runH 60 [692] ?_
  simp only [n0, t0, ↓xh, ↓xst, ↓xrunE, ↓rG, rL, rSt, updA, List.elem_nil, List.elem_cons, Nat.reduceBEq, Bool.false_eq_true, if_false, if_true, true_and, and_true, true_or, or_true, not_false_eq_true, Nat.reduceAdd, Nat.reduceSub, Nat.reduceLeDiff, Nat.reduceEqDiff, Nat.reduceLT, ↓reduceIte, List.length_cons, List.length_nil, List.set_cons_zero, List.set_cons_succ, Nat.le_refl, Nat.zero_le, Nat.zero_sub, Nat.sub_zero, List.nil_append, List.cons_append, Option.toList_some, Option.toList_none, eq_self]
  exact back M1 nx1 _ _ _ (LW.st rfl hW rr hm he hs hn a1 w1 f1 bk1 rr1 ⟨T', by omega, hT2⟩) (by omega) (by omega)
set_option maxRecDepth 100000 in
set_option maxHeartbeats 4000000 in
theorem lo17 (hL : L ≤ 2563) {i nx T cb sb : Nat} {M : xM} {s : rS} (hi : i + 5 ≤ L) (hc : 20 ≤ cb) (hsb : 220 ≤ sb) (hT : T < 600) (hw : LW E b L xs m nx M c s T) (x17 : xs i &&& 31 = 17) (back : ∀ M' nx' s' cb' sb', LW E b L xs m nx' M' c s' (T + 1) → cb ≤ cb' + 20 → sb ≤ sb' + 220 → XZ E 0 (xZ E 0 Q) 692 [some (.ref b), some (.ref c), some (.ref m), some (.int (nI i))] [] M' nx' cb' sb') : XZ E 0 (xZ E 0 Q) 48 [some (.ref b), some (.ref c), some (.ref m), some (.int (nI i))] [] M nx cb sb := by
  have e : ¬ nI L - 5 < nI i := by
    rw [show nI L - 5 = nI (L - 5) from nI_subn L 5 (by omega)]
    exact k2_nlt (nI_le (by omega) (by omega))
  have i0 := nIx (show i < L by omega) (by omega)
  have i1 := nIx (show i + 1 < L by omega) (by omega)
  have i2 := nIx (show i + 2 < L by omega) (by omega)
  have i3 := nIx (show i + 3 < L by omega) (by omega)
  have i4 := nIx (show i + 4 < L by omega) (by omega)
  have p2 : nI i + 2 = nI (i + 2) := nI_add i 2
  have p3 : nI i + 3 = nI (i + 3) := nI_add i 3
  have p4 : nI i + 4 = nI (i + 4) := nI_add i 4
  have p5 : nI i + 5 = nI (i + 5) := nI_add i 5
  obtain ⟨A, v, a0, hW, rr, hm, he, hs, T', hT1, hT2⟩ := id hw
  have sc : ∀ P, xarr M b P = P 0 L (fun k => .int (xs k)) := fun P => xhar hs.1
  subst a0
  have xO := cFx hW.1
  have hR := hW.1.1.2.2.1
  have hN := hW.1.1.2.1
  have hS := hW.1.1.2.2.2.1
  have hX := hW.1.1.2.2.2.2.1
  have h9 := hW.2.1.1.1.2.2.2
  have h7 := hW.2.1.1.1.2.2.1
  have h22 := hW.2.1.2.1.2.1.2.1
  have h34 := hW.2.1.2.1.2.1.2.2.2
  have hl := hW.2.2.2.2.2.2.2.1
  have hrt := hW.rt
  have hrv := hW.rv
  have hho : ∀ i, i < A 2 2 → ∃ B, B < 64 ∧ s.2 16 i = nI B := fun i hi => by
    obtain ⟨b', hb', e', _⟩ := hW.2.2.2.2.2.2.1.2.1 i hi
    exact ⟨b', hb', e'⟩
  refine XZ.runH 60 [692] ?_
  have sw17 : swt 17 692 [(0, 156), (1, 181), (2, 194), (3, 217), (4, 266), (5, 299), (6, 322), (7, 345), (8, 368), (9, 391), (10, 404), (11, 437), (12, 470), (13, 503), (14, 556), (15, 579), (16, 602), (17, 625), (18, 658), (19, 679)] = 625 := by decide
  simp only [n0, n20, t0, ↓xh, ↓xst, ↓xrunE, ↓rG, rL, rSt, updA, List.elem_nil, List.elem_cons, Nat.reduceBEq, Bool.false_eq_true, if_false, if_true, true_and, and_true, true_or, or_true, not_false_eq_true, Nat.reduceAdd, Nat.reduceSub, Nat.reduceLeDiff, Nat.reduceEqDiff, Nat.reduceLT, ↓reduceIte, List.length_cons, List.length_nil, List.set_cons_zero, List.set_cons_succ, Nat.le_refl, Nat.zero_le, Nat.zero_sub, Nat.sub_zero, List.nil_append, List.cons_append, Option.toList_some, Option.toList_none, eq_self, ↓sc, ofN, e, i0, x17, xsw_t, sw17, ↓xO, ↓sc, i1, nI_1, i2, p2]
  refine w20 hW (fun M1 A1 v1 nx1 hn a1 w1 f1 bk1 => ?_)
  have sc1 : ∀ P, xarr M1 b P = P 0 L (fun k => .int (xs k)) := fun P => xhar (by rw [f1 b (hW.lo hs.2).1 (hW.lo hs.2).2]; exact hs.1)
  have rr1 := rep_mv rr hm.2 f1
  refine XZ.runH 60 [692] ?_
  simp only [n0, n97, t0, ↓xh, ↓xst, ↓xrunE, ↓rG, rL, rSt, updA, List.elem_nil, List.elem_cons, Nat.reduceBEq, Bool.false_eq_true, if_false, if_true, true_and, and_true, true_or, or_true, not_false_eq_true, Nat.reduceAdd, Nat.reduceSub, Nat.reduceLeDiff, Nat.reduceEqDiff, Nat.reduceLT, ↓reduceIte, List.length_cons, List.length_nil, List.set_cons_zero, List.set_cons_succ, Nat.le_refl, Nat.zero_le, Nat.zero_sub, Nat.sub_zero, List.nil_append, List.cons_append, Option.toList_some, Option.toList_none, eq_self, ↓rO1 rr1.1, ↓sc1, i1, nI_1, i2, p2]
  refine rc97 rr1.1 hS h22 ?_
  refine XZ.runH 60 [692] ?_
  simp only [n0, t0, ↓xh, ↓xst, ↓xrunE, ↓rG, rL, rSt, updA, List.elem_nil, List.elem_cons, Nat.reduceBEq, Bool.false_eq_true, if_false, if_true, true_and, and_true, true_or, or_true, not_false_eq_true, Nat.reduceAdd, Nat.reduceSub, Nat.reduceLeDiff, Nat.reduceEqDiff, Nat.reduceLT, ↓reduceIte, List.length_cons, List.length_nil, List.set_cons_zero, List.set_cons_succ, Nat.le_refl, Nat.zero_le, Nat.zero_sub, Nat.sub_zero, List.nil_append, List.cons_append, Option.toList_some, Option.toList_none, eq_self]
  exact back M1 nx1 _ _ _ (LW.st rfl hW rr hm he hs hn a1 w1 f1 bk1 rr1 ⟨T', by omega, hT2⟩) (by omega) (by omega)
set_option maxRecDepth 100000 in
set_option maxHeartbeats 4000000 in
theorem lo18 (hL : L ≤ 2563) {i nx T cb sb : Nat} {M : xM} {s : rS} (hi : i + 5 ≤ L) (hc : 20 ≤ cb) (hsb : 220 ≤ sb) (hT : T < 600) (hw : LW E b L xs m nx M c s T) (x18 : xs i &&& 31 = 18) (back : ∀ M' nx' s' cb' sb', LW E b L xs m nx' M' c s' (T + 1) → cb ≤ cb' + 20 → sb ≤ sb' + 220 → XZ E 0 (xZ E 0 Q) 692 [some (.ref b), some (.ref c), some (.ref m), some (.int (nI i))] [] M' nx' cb' sb') : XZ E 0 (xZ E 0 Q) 48 [some (.ref b), some (.ref c), some (.ref m), some (.int (nI i))] [] M nx cb sb := by
  have e : ¬ nI L - 5 < nI i := by
    rw [show nI L - 5 = nI (L - 5) from nI_subn L 5 (by omega)]
    exact k2_nlt (nI_le (by omega) (by omega))
  have i0 := nIx (show i < L by omega) (by omega)
  have i1 := nIx (show i + 1 < L by omega) (by omega)
  have i2 := nIx (show i + 2 < L by omega) (by omega)
  have i3 := nIx (show i + 3 < L by omega) (by omega)
  have i4 := nIx (show i + 4 < L by omega) (by omega)
  have p2 : nI i + 2 = nI (i + 2) := nI_add i 2
  have p3 : nI i + 3 = nI (i + 3) := nI_add i 3
  have p4 : nI i + 4 = nI (i + 4) := nI_add i 4
  have p5 : nI i + 5 = nI (i + 5) := nI_add i 5
  obtain ⟨A, v, a0, hW, rr, hm, he, hs, T', hT1, hT2⟩ := id hw
  have sc : ∀ P, xarr M b P = P 0 L (fun k => .int (xs k)) := fun P => xhar hs.1
  subst a0
  have xO := cFx hW.1
  have hR := hW.1.1.2.2.1
  have hN := hW.1.1.2.1
  have hS := hW.1.1.2.2.2.1
  have hX := hW.1.1.2.2.2.2.1
  have h9 := hW.2.1.1.1.2.2.2
  have h7 := hW.2.1.1.1.2.2.1
  have h22 := hW.2.1.2.1.2.1.2.1
  have h34 := hW.2.1.2.1.2.1.2.2.2
  have hl := hW.2.2.2.2.2.2.2.1
  have hrt := hW.rt
  have hrv := hW.rv
  have hho : ∀ i, i < A 2 2 → ∃ B, B < 64 ∧ s.2 16 i = nI B := fun i hi => by
    obtain ⟨b', hb', e', _⟩ := hW.2.2.2.2.2.2.1.2.1 i hi
    exact ⟨b', hb', e'⟩
  refine XZ.runH 60 [692] ?_
  have sw18 : swt 18 692 [(0, 156), (1, 181), (2, 194), (3, 217), (4, 266), (5, 299), (6, 322), (7, 345), (8, 368), (9, 391), (10, 404), (11, 437), (12, 470), (13, 503), (14, 556), (15, 579), (16, 602), (17, 625), (18, 658), (19, 679)] = 658 := by decide
  simp only [n0, n21, t0, ↓xh, ↓xst, ↓xrunE, ↓rG, rL, rSt, updA, List.elem_nil, List.elem_cons, Nat.reduceBEq, Bool.false_eq_true, if_false, if_true, true_and, and_true, true_or, or_true, not_false_eq_true, Nat.reduceAdd, Nat.reduceSub, Nat.reduceLeDiff, Nat.reduceEqDiff, Nat.reduceLT, ↓reduceIte, List.length_cons, List.length_nil, List.set_cons_zero, List.set_cons_succ, Nat.le_refl, Nat.zero_le, Nat.zero_sub, Nat.sub_zero, List.nil_append, List.cons_append, Option.toList_some, Option.toList_none, eq_self, ↓sc, ofN, e, i0, x18, xsw_t, sw18, ↓xO, ↓sc, i1, nI_1]
  refine w21 hW (fun M1 A1 v1 nx1 hn a1 w1 f1 bk1 => ?_)
  have sc1 : ∀ P, xarr M1 b P = P 0 L (fun k => .int (xs k)) := fun P => xhar (by rw [f1 b (hW.lo hs.2).1 (hW.lo hs.2).2]; exact hs.1)
  have rr1 := rep_mv rr hm.2 f1
  refine XZ.runH 60 [692] ?_
  simp only [n0, n98, t0, ↓xh, ↓xst, ↓xrunE, ↓rG, rL, rSt, updA, List.elem_nil, List.elem_cons, Nat.reduceBEq, Bool.false_eq_true, if_false, if_true, true_and, and_true, true_or, or_true, not_false_eq_true, Nat.reduceAdd, Nat.reduceSub, Nat.reduceLeDiff, Nat.reduceEqDiff, Nat.reduceLT, ↓reduceIte, List.length_cons, List.length_nil, List.set_cons_zero, List.set_cons_succ, Nat.le_refl, Nat.zero_le, Nat.zero_sub, Nat.sub_zero, List.nil_append, List.cons_append, Option.toList_some, Option.toList_none, eq_self, ↓rO1 rr1.1, ↓sc1, i1, nI_1]
  refine rc98 hm.1 rr1 (fun M2 r2 => ?_)
  refine XZ.runH 60 [692] ?_
  simp only [n0, t0, ↓xh, ↓xst, ↓xrunE, ↓rG, rL, rSt, updA, List.elem_nil, List.elem_cons, Nat.reduceBEq, Bool.false_eq_true, if_false, if_true, true_and, and_true, true_or, or_true, not_false_eq_true, Nat.reduceAdd, Nat.reduceSub, Nat.reduceLeDiff, Nat.reduceEqDiff, Nat.reduceLT, ↓reduceIte, List.length_cons, List.length_nil, List.set_cons_zero, List.set_cons_succ, Nat.le_refl, Nat.zero_le, Nat.zero_sub, Nat.sub_zero, List.nil_append, List.cons_append, Option.toList_some, Option.toList_none, eq_self]
  exact back M2 nx1 _ _ _ (LW.st rfl hW rr hm he hs hn a1 w1 f1 bk1 r2 ⟨T', by omega, hT2⟩) (by omega) (by omega)
set_option maxRecDepth 100000 in
set_option maxHeartbeats 4000000 in
theorem lo19 (hL : L ≤ 2563) {i nx T cb sb : Nat} {M : xM} {s : rS} (hi : i + 5 ≤ L) (hc : 20 ≤ cb) (hsb : 220 ≤ sb) (hT : T < 600) (hw : LW E b L xs m nx M c s T) (x19 : xs i &&& 31 = 19) (back : ∀ M' nx' s' cb' sb', LW E b L xs m nx' M' c s' (T + 1) → cb ≤ cb' + 20 → sb ≤ sb' + 220 → XZ E 0 (xZ E 0 Q) 692 [some (.ref b), some (.ref c), some (.ref m), some (.int (nI i))] [] M' nx' cb' sb') : XZ E 0 (xZ E 0 Q) 48 [some (.ref b), some (.ref c), some (.ref m), some (.int (nI i))] [] M nx cb sb := by
  have e : ¬ nI L - 5 < nI i := by
    rw [show nI L - 5 = nI (L - 5) from nI_subn L 5 (by omega)]
    exact k2_nlt (nI_le (by omega) (by omega))
  have i0 := nIx (show i < L by omega) (by omega)
  have i1 := nIx (show i + 1 < L by omega) (by omega)
  have i2 := nIx (show i + 2 < L by omega) (by omega)
  have i3 := nIx (show i + 3 < L by omega) (by omega)
  have i4 := nIx (show i + 4 < L by omega) (by omega)
  have p2 : nI i + 2 = nI (i + 2) := nI_add i 2
  have p3 : nI i + 3 = nI (i + 3) := nI_add i 3
  have p4 : nI i + 4 = nI (i + 4) := nI_add i 4
  have p5 : nI i + 5 = nI (i + 5) := nI_add i 5
  obtain ⟨A, v, a0, hW, rr, hm, he, hs, T', hT1, hT2⟩ := id hw
  have sc : ∀ P, xarr M b P = P 0 L (fun k => .int (xs k)) := fun P => xhar hs.1
  subst a0
  have xO := cFx hW.1
  have hR := hW.1.1.2.2.1
  have hN := hW.1.1.2.1
  have hS := hW.1.1.2.2.2.1
  have hX := hW.1.1.2.2.2.2.1
  have h9 := hW.2.1.1.1.2.2.2
  have h7 := hW.2.1.1.1.2.2.1
  have h22 := hW.2.1.2.1.2.1.2.1
  have h34 := hW.2.1.2.1.2.1.2.2.2
  have hl := hW.2.2.2.2.2.2.2.1
  have hrt := hW.rt
  have hrv := hW.rv
  have hho : ∀ i, i < A 2 2 → ∃ B, B < 64 ∧ s.2 16 i = nI B := fun i hi => by
    obtain ⟨b', hb', e', _⟩ := hW.2.2.2.2.2.2.1.2.1 i hi
    exact ⟨b', hb', e'⟩
  refine XZ.runH 60 [692] ?_
  have sw19 : swt 19 692 [(0, 156), (1, 181), (2, 194), (3, 217), (4, 266), (5, 299), (6, 322), (7, 345), (8, 368), (9, 391), (10, 404), (11, 437), (12, 470), (13, 503), (14, 556), (15, 579), (16, 602), (17, 625), (18, 658), (19, 679)] = 679 := by decide
  simp only [n0, n22, t0, ↓xh, ↓xst, ↓xrunE, ↓rG, rL, rSt, updA, List.elem_nil, List.elem_cons, Nat.reduceBEq, Bool.false_eq_true, if_false, if_true, true_and, and_true, true_or, or_true, not_false_eq_true, Nat.reduceAdd, Nat.reduceSub, Nat.reduceLeDiff, Nat.reduceEqDiff, Nat.reduceLT, ↓reduceIte, List.length_cons, List.length_nil, List.set_cons_zero, List.set_cons_succ, Nat.le_refl, Nat.zero_le, Nat.zero_sub, Nat.sub_zero, List.nil_append, List.cons_append, Option.toList_some, Option.toList_none, eq_self, ↓sc, ofN, e, i0, x19, xsw_t, sw19, ↓xO]
  refine w22 hW (fun M1 A1 v1 nx1 hn a1 w1 f1 bk1 => ?_)
  have sc1 : ∀ P, xarr M1 b P = P 0 L (fun k => .int (xs k)) := fun P => xhar (by rw [f1 b (hW.lo hs.2).1 (hW.lo hs.2).2]; exact hs.1)
  have rr1 := rep_mv rr hm.2 f1
  refine XZ.runH 60 [692] ?_
  simp only [n0, n99, t0, ↓xh, ↓xst, ↓xrunE, ↓rG, rL, rSt, updA, List.elem_nil, List.elem_cons, Nat.reduceBEq, Bool.false_eq_true, if_false, if_true, true_and, and_true, true_or, or_true, not_false_eq_true, Nat.reduceAdd, Nat.reduceSub, Nat.reduceLeDiff, Nat.reduceEqDiff, Nat.reduceLT, ↓reduceIte, List.length_cons, List.length_nil, List.set_cons_zero, List.set_cons_succ, Nat.le_refl, Nat.zero_le, Nat.zero_sub, Nat.sub_zero, List.nil_append, List.cons_append, Option.toList_some, Option.toList_none, eq_self, ↓rO1 rr1.1]
  refine rc99 rr1.1 ?_
  refine XZ.runH 60 [692] ?_
  simp only [n0, t0, ↓xh, ↓xst, ↓xrunE, ↓rG, rL, rSt, updA, List.elem_nil, List.elem_cons, Nat.reduceBEq, Bool.false_eq_true, if_false, if_true, true_and, and_true, true_or, or_true, not_false_eq_true, Nat.reduceAdd, Nat.reduceSub, Nat.reduceLeDiff, Nat.reduceEqDiff, Nat.reduceLT, ↓reduceIte, List.length_cons, List.length_nil, List.set_cons_zero, List.set_cons_succ, Nat.le_refl, Nat.zero_le, Nat.zero_sub, Nat.sub_zero, List.nil_append, List.cons_append, Option.toList_some, Option.toList_none, eq_self]
  exact back M1 nx1 _ _ _ (LW.st rfl hW rr hm he hs hn a1 w1 f1 bk1 rr1 ⟨T', by omega, hT2⟩) (by omega) (by omega)
set_option maxRecDepth 100000 in
set_option maxHeartbeats 4000000 in
theorem lo20 (hL : L ≤ 2563) {i nx T cb sb : Nat} {M : xM} {s : rS} (hi : i + 5 ≤ L) (hc : 20 ≤ cb) (hsb : 220 ≤ sb) (hT : T < 600) (hw : LW E b L xs m nx M c s T) (x0 : ¬ xs i &&& 31 = 0) (x1 : ¬ xs i &&& 31 = 1) (x2 : ¬ xs i &&& 31 = 2) (x3 : ¬ xs i &&& 31 = 3) (x4 : ¬ xs i &&& 31 = 4) (x5 : ¬ xs i &&& 31 = 5) (x6 : ¬ xs i &&& 31 = 6) (x7 : ¬ xs i &&& 31 = 7) (x8 : ¬ xs i &&& 31 = 8) (x9 : ¬ xs i &&& 31 = 9) (x10 : ¬ xs i &&& 31 = 10) (x11 : ¬ xs i &&& 31 = 11) (x12 : ¬ xs i &&& 31 = 12) (x13 : ¬ xs i &&& 31 = 13) (x14 : ¬ xs i &&& 31 = 14) (x15 : ¬ xs i &&& 31 = 15) (x16 : ¬ xs i &&& 31 = 16) (x17 : ¬ xs i &&& 31 = 17) (x18 : ¬ xs i &&& 31 = 18) (x19 : ¬ xs i &&& 31 = 19) (back : ∀ M' nx' s' cb' sb', LW E b L xs m nx' M' c s' (T + 1) → cb ≤ cb' + 20 → sb ≤ sb' + 220 → XZ E 0 (xZ E 0 Q) 692 [some (.ref b), some (.ref c), some (.ref m), some (.int (nI i))] [] M' nx' cb' sb') : XZ E 0 (xZ E 0 Q) 48 [some (.ref b), some (.ref c), some (.ref m), some (.int (nI i))] [] M nx cb sb := by
  have e : ¬ nI L - 5 < nI i := by
    rw [show nI L - 5 = nI (L - 5) from nI_subn L 5 (by omega)]
    exact k2_nlt (nI_le (by omega) (by omega))
  have i0 := nIx (show i < L by omega) (by omega)
  have i1 := nIx (show i + 1 < L by omega) (by omega)
  have i2 := nIx (show i + 2 < L by omega) (by omega)
  have i3 := nIx (show i + 3 < L by omega) (by omega)
  have i4 := nIx (show i + 4 < L by omega) (by omega)
  have p2 : nI i + 2 = nI (i + 2) := nI_add i 2
  have p3 : nI i + 3 = nI (i + 3) := nI_add i 3
  have p4 : nI i + 4 = nI (i + 4) := nI_add i 4
  have p5 : nI i + 5 = nI (i + 5) := nI_add i 5
  obtain ⟨A, v, a0, hW, rr, hm, he, hs, T', hT1, hT2⟩ := id hw
  have sc : ∀ P, xarr M b P = P 0 L (fun k => .int (xs k)) := fun P => xhar hs.1
  subst a0
  have xO := cFx hW.1
  have hR := hW.1.1.2.2.1
  have hN := hW.1.1.2.1
  have hS := hW.1.1.2.2.2.1
  have hX := hW.1.1.2.2.2.2.1
  have h9 := hW.2.1.1.1.2.2.2
  have h7 := hW.2.1.1.1.2.2.1
  have h22 := hW.2.1.2.1.2.1.2.1
  have h34 := hW.2.1.2.1.2.1.2.2.2
  have hl := hW.2.2.2.2.2.2.2.1
  have hrt := hW.rt
  have hrv := hW.rv
  have hho : ∀ i, i < A 2 2 → ∃ B, B < 64 ∧ s.2 16 i = nI B := fun i hi => by
    obtain ⟨b', hb', e', _⟩ := hW.2.2.2.2.2.2.1.2.1 i hi
    exact ⟨b', hb', e'⟩
  refine XZ.runH 60 [692] ?_
  have swd : swt (xs i &&& 31) 692 [(0, 156), (1, 181), (2, 194), (3, 217), (4, 266), (5, 299), (6, 322), (7, 345), (8, 368), (9, 391), (10, 404), (11, 437), (12, 470), (13, 503), (14, 556), (15, 579), (16, 602), (17, 625), (18, 658), (19, 679)] = 692 := by
    simp only [swt, x0, x1, x2, x3, x4, x5, x6, x7, x8, x9, x10, x11, x12, x13, x14, x15, x16, x17, x18, x19, if_false]
  simp only [n0, t0, ↓xh, ↓xst, ↓xrunE, ↓rG, rL, rSt, updA, List.elem_nil, List.elem_cons, Nat.reduceBEq, Bool.false_eq_true, if_false, if_true, true_and, and_true, true_or, or_true, not_false_eq_true, Nat.reduceAdd, Nat.reduceSub, Nat.reduceLeDiff, Nat.reduceEqDiff, Nat.reduceLT, ↓reduceIte, List.length_cons, List.length_nil, List.set_cons_zero, List.set_cons_succ, Nat.le_refl, Nat.zero_le, Nat.zero_sub, Nat.sub_zero, List.nil_append, List.cons_append, Option.toList_some, Option.toList_none, eq_self, ↓sc, ofN, e, i0, xsw_t, swd]
  exact back M nx s _ _ ⟨A, v, rfl, hW, rr, hm, he, hs, T', by omega, hT2⟩ (by omega) (by omega)
set_option maxRecDepth 100000 in
set_option maxHeartbeats 4000000 in
theorem ml0 (hL : L ≤ 2563) (hq : ∀ M nx, Q (some (.int 1)) M nx) : ∀ l i M nx s T cb sb, i + 5 * l ≤ 2563 → L < i + 5 * (l + 1) → T + l ≤ 600 → 20 * l ≤ cb → 220 * l ≤ sb → LW E b L xs m nx M c s T → XZ E 0 (xZ E 0 Q) 48 [some (.ref b), some (.ref c), some (.ref m), some (.int (nI i))] [] M nx cb sb := by
  intro l
  induction l with
  | zero =>
    intro i M nx s T cb sb h1 h2 h3 h4 h5 hw
    obtain ⟨A, v, a0, hW, rr, hm, he, hs, hT⟩ := hw
    have sc : ∀ P, xarr M b P = P 0 L (fun k => .int (xs k)) := fun P => xhar hs.1
    have e : nI L - 5 < nI i := by
      rw [Int32.lt_iff_toInt_lt, nI_toInt (by omega), Int32.toInt_sub, nI_toInt (by omega), show (5 : Int32).toInt = 5 by decide]
      have : ((L : Int) - 5).bmod (2 ^ 32) = (L : Int) - 5 := by
        apply Int.bmod_eq_of_le <;> omega
      rw [this]
      omega
    refine XZ.runH 60 [48] ?_
    simp only [n0, t0, ↓xh, ↓xst, ↓xrunE, ↓rG, rL, rSt, updA, List.elem_nil, List.elem_cons, Nat.reduceBEq, Bool.false_eq_true, if_false, if_true, true_and, and_true, true_or, or_true, not_false_eq_true, Nat.reduceAdd, Nat.reduceSub, Nat.reduceLeDiff, Nat.reduceEqDiff, Nat.reduceLT, ↓reduceIte, List.length_cons, List.length_nil, List.set_cons_zero, List.set_cons_succ, Nat.le_refl, Nat.zero_le, Nat.zero_sub, Nat.sub_zero, List.nil_append, List.cons_append, Option.toList_some, Option.toList_none, eq_self, ↓sc, ofN, e]
    exact hq M nx
  | succ l ih =>
    intro i M nx s T cb sb h1 h2 h3 h4 h5 hw
    by_cases fin : L < i + 5
    · obtain ⟨A, v, a0, hW, rr, hm, he, hs, hT⟩ := hw
      have sc : ∀ P, xarr M b P = P 0 L (fun k => .int (xs k)) := fun P => xhar hs.1
      have e : nI L - 5 < nI i := by
        rw [Int32.lt_iff_toInt_lt, nI_toInt (by omega), Int32.toInt_sub, nI_toInt (by omega), show (5 : Int32).toInt = 5 by decide]
        have : ((L : Int) - 5).bmod (2 ^ 32) = (L : Int) - 5 := by
          apply Int.bmod_eq_of_le <;> omega
        rw [this]
        omega
      refine XZ.runH 60 [48] ?_
      simp only [n0, t0, ↓xh, ↓xst, ↓xrunE, ↓rG, rL, rSt, updA, List.elem_nil, List.elem_cons, Nat.reduceBEq, Bool.false_eq_true, if_false, if_true, true_and, and_true, true_or, or_true, not_false_eq_true, Nat.reduceAdd, Nat.reduceSub, Nat.reduceLeDiff, Nat.reduceEqDiff, Nat.reduceLT, ↓reduceIte, List.length_cons, List.length_nil, List.set_cons_zero, List.set_cons_succ, Nat.le_refl, Nat.zero_le, Nat.zero_sub, Nat.sub_zero, List.nil_append, List.cons_append, Option.toList_some, Option.toList_none, eq_self, ↓sc, ofN, e]
      exact hq M nx
    have p5 : nI i + 5 = nI (i + 5) := nI_add i 5
    have back : ∀ M' nx' s' cb' sb', LW E b L xs m nx' M' c s' (T + 1) → cb ≤ cb' + 20 → sb ≤ sb' + 220 → XZ E 0 (xZ E 0 Q) 692 [some (.ref b), some (.ref c), some (.ref m), some (.int (nI i))] [] M' nx' cb' sb' := by
      intro M' nx' s' cb' sb' hw' c1 c2
      refine XZ.runH 60 [48] ?_
      simp only [n0, t0, ↓xh, ↓xst, ↓xrunE, ↓rG, rL, rSt, updA, List.elem_nil, List.elem_cons, Nat.reduceBEq, Bool.false_eq_true, if_false, if_true, true_and, and_true, true_or, or_true, not_false_eq_true, Nat.reduceAdd, Nat.reduceSub, Nat.reduceLeDiff, Nat.reduceEqDiff, Nat.reduceLT, ↓reduceIte, List.length_cons, List.length_nil, List.set_cons_zero, List.set_cons_succ, Nat.le_refl, Nat.zero_le, Nat.zero_sub, Nat.sub_zero, List.nil_append, List.cons_append, Option.toList_some, Option.toList_none, eq_self, p5]
      exact ih (i + 5) M' nx' s' (T + 1) cb' sb' (by omega) (by omega) (by omega) (by omega) (by omega) hw'
    by_cases x0 : xs i &&& 31 = 0
    · exact lo0 hL (by omega) (by omega) (by omega) (by omega) hw x0 back
    by_cases x1 : xs i &&& 31 = 1
    · exact lo1 hL (by omega) (by omega) (by omega) (by omega) hw x1 back
    by_cases x2 : xs i &&& 31 = 2
    · exact lo2 hL (by omega) (by omega) (by omega) (by omega) hw x2 back
    by_cases x3 : xs i &&& 31 = 3
    · exact lo3 hL (by omega) (by omega) (by omega) (by omega) hw x3 back
    by_cases x4 : xs i &&& 31 = 4
    · exact lo4 hL (by omega) (by omega) (by omega) (by omega) hw x4 back
    by_cases x5 : xs i &&& 31 = 5
    · exact lo5 hL (by omega) (by omega) (by omega) (by omega) hw x5 back
    by_cases x6 : xs i &&& 31 = 6
    · exact lo6 hL (by omega) (by omega) (by omega) (by omega) hw x6 back
    by_cases x7 : xs i &&& 31 = 7
    · exact lo7 hL (by omega) (by omega) (by omega) (by omega) hw x7 back
    by_cases x8 : xs i &&& 31 = 8
    · exact lo8 hL (by omega) (by omega) (by omega) (by omega) hw x8 back
    by_cases x9 : xs i &&& 31 = 9
    · exact lo9 hL (by omega) (by omega) (by omega) (by omega) hw x9 back
    by_cases x10 : xs i &&& 31 = 10
    · exact lo10 hL (by omega) (by omega) (by omega) (by omega) hw x10 back
    by_cases x11 : xs i &&& 31 = 11
    · exact lo11 hL (by omega) (by omega) (by omega) (by omega) hw x11 back
    by_cases x12 : xs i &&& 31 = 12
    · exact lo12 hL (by omega) (by omega) (by omega) (by omega) hw x12 back
    by_cases x13 : xs i &&& 31 = 13
    · exact lo13 hL (by omega) (by omega) (by omega) (by omega) hw x13 back
    by_cases x14 : xs i &&& 31 = 14
    · exact lo14 hL (by omega) (by omega) (by omega) (by omega) hw x14 back
    by_cases x15 : xs i &&& 31 = 15
    · exact lo15 hL (by omega) (by omega) (by omega) (by omega) hw x15 back
    by_cases x16 : xs i &&& 31 = 16
    · exact lo16 hL (by omega) (by omega) (by omega) (by omega) hw x16 back
    by_cases x17 : xs i &&& 31 = 17
    · exact lo17 hL (by omega) (by omega) (by omega) (by omega) hw x17 back
    by_cases x18 : xs i &&& 31 = 18
    · exact lo18 hL (by omega) (by omega) (by omega) (by omega) hw x18 back
    by_cases x19 : xs i &&& 31 = 19
    · exact lo19 hL (by omega) (by omega) (by omega) (by omega) hw x19 back
    exact lo20 hL (by omega) (by omega) (by omega) (by omega) hw x0 x1 x2 x3 x4 x5 x6 x7 x8 x9 x10 x11 x12 x13 x14 x15 x16 x17 x18 x19 back
end LAW
