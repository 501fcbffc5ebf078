/-! looking around -/
theorem cM.k2 {A : cA} {v v1 : cV} {s : rS} (hm : cM A v s) (h : ∀ kd, kd ≠ 2 → v1 kd = v kd) : cM A v1 s := hm.sm (h 4 (by decide)) (h 10 (by decide)) (h 14 (by decide)) (h 15 (by decide)) rfl rfl (fun _ _ _ => rfl)
/-- the hops to network k as the class writes them -/
def rHk (s : rS) (R a : Nat) (zm : Nat → Bool) (k : Nat) : Int32 := if zm k then (if a = k then 0 else rReachB s R a k) else -1
section LKA
variable {E : xE} {B nx : Nat} {M : xM} {A : cA} {v : cV} {s : rS} {Q : Option Value → xM → Nat → Prop}
set_option maxRecDepth 100000 in
set_option maxHeartbeats 4000000 in
theorem ml45 {a as ap na zo : Nat} {ga : Nat → Int32} {zm : Nat → Bool} (hm : cM A v s) (ha : a < A 2 0) (ja : jS M as ap na ga) (na1 : ¬ ccl A as ∧ ¬ ccl A ap) (hz : ∀ k, k < A 2 0 → ∃ gk nk, jS M (A 7 k) (A 8 k) nk gk ∧ ¬ ccl A (A 7 k) ∧ ¬ ccl A (A 8 k) ∧ ((na = nk ∧ jEq ga gk na 0 = true) ↔ zm k = true))
    (hq : ∀ M' v', cR E B M M' A v' → (∀ kd, kd ≠ 2 → v' kd = v kd) → (∀ k, k < A 2 0 → v' 2 0 k = rHk s (A 2 1) a zm k) → Q none M' nx) :
    ∀ l k M1 v1 l7 l8, k + l = A 2 0 → cR E B M M1 A v1 → (∀ kd, kd ≠ 2 → v1 kd = v kd) → (∀ j, j < k → v1 2 0 j = rHk s (A 2 1) a zm j) → XZ E 45 (xZ E 45 Q) 34 [some (.ref (A 0 0 + 3)), some (.int (nI a)), some (.ref zo), some (.ref (A 0 0 + 10)), some (.ref as), some (.int (rFst s a (A 2 1) 0)), some (.int (nI k)), l7, l8] [] M1 nx 0 0 := by
  intro l
  induction l with
  | zero =>
    intro k M1 v1 l7 l8 hk h1 k1 e1
    obtain rfl : k = A 2 0 := by omega
    have hN := h1.1.2.1
    have e := eT (nI_le (Nat.le_refl (A 2 0)) (show A 2 0 < 2 ^ 31 by omega))
    have m1 := hm.k2 k1
    refine XZ.runH 60 [34] ?_
    simp only [n45, t45, ↓xh, ↓xst, ↓xrunE, ↓rG, rL, rSt, updA, List.elem_nil, List.elem_cons, Nat.reduceBEq, Bool.false_eq_true, if_false, if_true, true_and, and_true, true_or, or_true, not_false_eq_true, Nat.reduceAdd, Nat.reduceSub, Nat.reduceLeDiff, Nat.reduceEqDiff, Nat.reduceLT, ↓reduceIte, List.length_cons, List.length_nil, List.set_cons_zero, List.set_cons_succ, Nat.le_refl, Nat.zero_le, Nat.zero_sub, Nat.sub_zero, List.nil_append, List.cons_append, Option.toList_some, Option.toList_none, eq_self, ↓cFx h1, m1.1.1, e]
    exact hq M1 v1 h1 k1 e1
  | succ l ih =>
    intro k M1 v1 l7 l8 hk h1 k1 e1
    have hN := h1.1.2.1
    have hR := h1.1.2.2.1
    have kN : k < A 2 0 := by omega
    have e := eF (nI_ge kN (show A 2 0 < 2 ^ 31 by omega))
    have m1 := hm.k2 k1
    have ik := nIx (show k < 8 by omega)
    have ia := nIx (show a < 8 by omega)
    have b2 : xb E ≤ A 0 0 + 10 := h1.1.lo (kd := 2) (i := 0) ⟨rfl, by decide⟩
    obtain ⟨gk, nk, jk, nk1, nk2, zmk⟩ := hz k kN
    have ja1 : jS M1 as ap na ga := ja.mv (h1.2.2 _ na1.1) (h1.2.2 _ na1.2)
    have jk1 : jS M1 (A 7 k) (A 8 k) nk gk := jk.mv (h1.2.2 _ nk1) (h1.2.2 _ nk2)
    have wr : ∀ x : Int32, x = rHk s (A 2 1) a zm k → ∀ l7 l8, XZ E 45 (xZ E 45 Q) 140 [some (.ref (A 0 0 + 3)), some (.int (nI a)), some (.ref zo), some (.ref (A 0 0 + 10)), some (.ref as), some (.int (rFst s a (A 2 1) 0)), some (.int (nI k)), l7, l8] [.int x, .int (nI k), .ref (A 0 0 + 10)] M1 nx 0 0 := by
      intro x ex l7 l8
      refine XZ.runH 60 [34, 141] ?_
      simp only [n45, t45, ↓xh, ↓xst, ↓xrunE, ↓rG, rL, rSt, updA, List.elem_nil, List.elem_cons, Nat.reduceBEq, Bool.false_eq_true, if_false, if_true, true_and, and_true, true_or, or_true, not_false_eq_true, Nat.reduceAdd, Nat.reduceSub, Nat.reduceLeDiff, Nat.reduceEqDiff, Nat.reduceLT, ↓reduceIte, List.length_cons, List.length_nil, List.set_cons_zero, List.set_cons_succ, Nat.le_refl, Nat.zero_le, Nat.zero_sub, Nat.sub_zero, List.nil_append, List.cons_append, Option.toList_some, Option.toList_none, eq_self, ↓cFx h1, ik, b2, xn0, updVi]
      refine XZ.abs2 (P := fun M' => cR E B M M' A (uv v1 2 0 (upd (v1 2 0) k x))) (h1.pw 2 0 ⟨rfl, by decide⟩ _ rfl rfl) (fun M2 h2 => ?_)
      refine XZ.runH 60 [34] ?_
      simp only [n45, t45, ↓xh, ↓xst, ↓xrunE, ↓rG, rL, rSt, updA, List.elem_nil, List.elem_cons, Nat.reduceBEq, Bool.false_eq_true, if_false, if_true, true_and, and_true, true_or, or_true, not_false_eq_true, Nat.reduceAdd, Nat.reduceSub, Nat.reduceLeDiff, Nat.reduceEqDiff, Nat.reduceLT, ↓reduceIte, List.length_cons, List.length_nil, List.set_cons_zero, List.set_cons_succ, Nat.le_refl, Nat.zero_le, Nat.zero_sub, Nat.sub_zero, List.nil_append, List.cons_append, Option.toList_some, Option.toList_none, eq_self, nI_1]
      refine ih (k + 1) M2 _ _ _ (by omega) h2 (fun kd hk => by rw [uv_k hk]; exact k1 kd hk) (fun j hj => ?_)
      rw [uv_s, updA]
      by_cases y : j = k
      · rw [if_pos y, ex, y]
      · rw [if_neg y]; exact e1 j (by omega)
    have lk : ∀ b : Bool, (b = true → zm k = true ∧ rHk s (A 2 1) a zm k = rWay s (A 2 1) a k) → (¬ b = true → rHk s (A 2 1) a zm k = -1) → ∀ l7, XZ E 45 (xZ E 45 Q) 121 [some (.ref (A 0 0 + 3)), some (.int (nI a)), some (.ref zo), some (.ref (A 0 0 + 10)), some (.ref as), some (.int (rFst s a (A 2 1) 0)), some (.int (nI k)), l7, some (.int (if b = true then 1 else 0))] [] M1 nx 0 0 := by
      intro b hb1 hb2 l7
      refine XZ.runH 60 [34, 140] ?_
      by_cases b1 : b = true
      · rw [if_pos b1]
        simp only [n45, n43, t45, ↓xh, ↓xst, ↓xrunE, ↓rG, rL, rSt, updA, List.elem_nil, List.elem_cons, Nat.reduceBEq, Bool.false_eq_true, if_false, if_true, true_and, and_true, true_or, or_true, not_false_eq_true, Nat.reduceAdd, Nat.reduceSub, Nat.reduceLeDiff, Nat.reduceEqDiff, Nat.reduceLT, ↓reduceIte, List.length_cons, List.length_nil, List.set_cons_zero, List.set_cons_succ, Nat.le_refl, Nat.zero_le, Nat.zero_sub, Nat.sub_zero, List.nil_append, List.cons_append, Option.toList_some, Option.toList_none, eq_self, show ¬ (1 : Int32) = 0 by decide, ↓cFx h1]
        refine mc43 h1 m1 (by omega) (by omega) ?_
        refine XZ.runH 60 [34, 140] ?_
        simp only [n45, t45, ↓xh, ↓xst, ↓xrunE, ↓rG, rL, rSt, updA, List.elem_nil, List.elem_cons, Nat.reduceBEq, Bool.false_eq_true, if_false, if_true, true_and, and_true, true_or, or_true, not_false_eq_true, Nat.reduceAdd, Nat.reduceSub, Nat.reduceLeDiff, Nat.reduceEqDiff, Nat.reduceLT, ↓reduceIte, List.length_cons, List.length_nil, List.set_cons_zero, List.set_cons_succ, Nat.le_refl, Nat.zero_le, Nat.zero_sub, Nat.sub_zero, List.nil_append, List.cons_append, Option.toList_some, Option.toList_none, eq_self]
        have := wr (rWay s (A 2 1) a k) (hb1 b1).2.symm l7 (some (.int (if b = true then 1 else 0)))
        rw [if_pos b1] at this
        exact this
      · rw [if_neg b1]
        simp only [n45, t45, ↓xh, ↓xst, ↓xrunE, ↓rG, rL, rSt, updA, List.elem_nil, List.elem_cons, Nat.reduceBEq, Bool.false_eq_true, if_false, if_true, true_and, and_true, true_or, or_true, not_false_eq_true, Nat.reduceAdd, Nat.reduceSub, Nat.reduceLeDiff, Nat.reduceEqDiff, Nat.reduceLT, ↓reduceIte, List.length_cons, List.length_nil, List.set_cons_zero, List.set_cons_succ, Nat.le_refl, Nat.zero_le, Nat.zero_sub, Nat.sub_zero, List.nil_append, List.cons_append, Option.toList_some, Option.toList_none, eq_self]
        have := wr (-1) (hb2 b1).symm l7 (some (.int (if b = true then 1 else 0)))
        rw [if_neg b1] at this
        exact this
    have wm := rWay_m s (A 2 1) a k
    have kn : ∀ b : Bool, (b = true ↔ (a = k ∨ ¬ (rFst s a (A 2 1) 0 < 0 ∨ s.2 7 (8 * (rFst s a (A 2 1) 0).toNatClampNeg + k) < 0 ∨ s.2 11 (8 * (rFst s a (A 2 1) 0).toNatClampNeg + k) = 0))) → XZ E 45 (xZ E 45 Q) 81 [some (.ref (A 0 0 + 3)), some (.int (nI a)), some (.ref zo), some (.ref (A 0 0 + 10)), some (.ref as), some (.int (rFst s a (A 2 1) 0)), some (.int (nI k)), some (.int (if b = true then 1 else 0)), l8] [] M1 nx 0 0 := by
      intro b hb
      have notk : ¬ b = true → rHk s (A 2 1) a zm k = -1 := by
        intro y
        unfold rHk
        split
        · have y2 := fun z => y (hb.mpr z)
          rw [if_neg (fun z => y2 (Or.inl z))]
          unfold rReachB
          by_cases y3 : rFst s a (A 2 1) 0 < 0 ∨ s.2 7 (8 * (rFst s a (A 2 1) 0).toNatClampNeg + k) < 0 ∨ s.2 11 (8 * (rFst s a (A 2 1) 0).toNatClampNeg + k) = 0
          · rw [if_pos (by rcases y3 with z | z | z <;> simp [z])]
          · exact absurd (Or.inr y3) y2
        · rfl
      refine XZ.runH 60 [121] ?_
      by_cases b1 : b = true
      rotate_left
      · rw [if_neg b1]
        simp only [n45, t45, ↓xh, ↓xst, ↓xrunE, ↓rG, rL, rSt, updA, List.elem_nil, List.elem_cons, Nat.reduceBEq, Bool.false_eq_true, if_false, if_true, true_and, and_true, true_or, or_true, not_false_eq_true, Nat.reduceAdd, Nat.reduceSub, Nat.reduceLeDiff, Nat.reduceEqDiff, Nat.reduceLT, ↓reduceIte, List.length_cons, List.length_nil, List.set_cons_zero, List.set_cons_succ, Nat.le_refl, Nat.zero_le, Nat.zero_sub, Nat.sub_zero, List.nil_append, List.cons_append, Option.toList_some, Option.toList_none, eq_self]
        exact lk false (fun z => by cases z) (fun _ => notk b1) _
      rw [if_pos b1]
      simp only [n45, n146, t45, ↓xh, ↓xst, ↓xrunE, ↓rG, rL, rSt, updA, List.elem_nil, List.elem_cons, Nat.reduceBEq, Bool.false_eq_true, if_false, if_true, true_and, and_true, true_or, or_true, not_false_eq_true, Nat.reduceAdd, Nat.reduceSub, Nat.reduceLeDiff, Nat.reduceEqDiff, Nat.reduceLT, ↓reduceIte, List.length_cons, List.length_nil, List.set_cons_zero, List.set_cons_succ, Nat.le_refl, Nat.zero_le, Nat.zero_sub, Nat.sub_zero, List.nil_append, List.cons_append, Option.toList_some, Option.toList_none, eq_self, show ¬ (1 : Int32) = 0 by decide, ↓cFx h1, ik, kN, ↓cNw h1 kN, ↓jO ja1]
      refine jd146 ja1 jk1 ?_
      refine XZ.runH 60 [121] ?_
      by_cases d1 : na = nk ∧ jEq ga gk na 0 = true
      rotate_left
      · rw [if_neg d1]
        have zf : ¬ zm k = true := fun z => d1 (zmk.mpr z)
        simp only [n45, t45, ↓xh, ↓xst, ↓xrunE, ↓rG, rL, rSt, updA, List.elem_nil, List.elem_cons, Nat.reduceBEq, Bool.false_eq_true, if_false, if_true, true_and, and_true, true_or, or_true, not_false_eq_true, Nat.reduceAdd, Nat.reduceSub, Nat.reduceLeDiff, Nat.reduceEqDiff, Nat.reduceLT, ↓reduceIte, List.length_cons, List.length_nil, List.set_cons_zero, List.set_cons_succ, Nat.le_refl, Nat.zero_le, Nat.zero_sub, Nat.sub_zero, List.nil_append, List.cons_append, Option.toList_some, Option.toList_none, eq_self]
        exact lk false (fun z => by cases z) (fun _ => by unfold rHk; rw [if_neg zf]) _
      have zt : zm k = true := zmk.mp d1
      rw [if_pos d1]
      simp only [n45, n44, t45, ↓xh, ↓xst, ↓xrunE, ↓rG, rL, rSt, updA, List.elem_nil, List.elem_cons, Nat.reduceBEq, Bool.false_eq_true, if_false, if_true, true_and, and_true, true_or, or_true, not_false_eq_true, Nat.reduceAdd, Nat.reduceSub, Nat.reduceLeDiff, Nat.reduceEqDiff, Nat.reduceLT, ↓reduceIte, List.length_cons, List.length_nil, List.set_cons_zero, List.set_cons_succ, Nat.le_refl, Nat.zero_le, Nat.zero_sub, Nat.sub_zero, List.nil_append, List.cons_append, Option.toList_some, Option.toList_none, eq_self, show ¬ (1 : Int32) = 0 by decide, ↓cFx h1]
      refine mc44 h1 m1 (by omega) (by omega) ?_
      refine XZ.runH 60 [121] ?_
      by_cases d2 : rWay s (A 2 1) a k < 0 ∨ rWay s (A 2 1) k a < 0
      · rw [if_pos d2]
        simp only [n45, t45, ↓xh, ↓xst, ↓xrunE, ↓rG, rL, rSt, updA, List.elem_nil, List.elem_cons, Nat.reduceBEq, Bool.false_eq_true, if_false, if_true, true_and, and_true, true_or, or_true, not_false_eq_true, Nat.reduceAdd, Nat.reduceSub, Nat.reduceLeDiff, Nat.reduceEqDiff, Nat.reduceLT, ↓reduceIte, List.length_cons, List.length_nil, List.set_cons_zero, List.set_cons_succ, Nat.le_refl, Nat.zero_le, Nat.zero_sub, Nat.sub_zero, List.nil_append, List.cons_append, Option.toList_some, Option.toList_none, eq_self]
        refine lk false (fun z => by cases z) (fun _ => ?_) _
        unfold rHk
        rw [if_pos zt]
        by_cases y : a = k
        · subst y
          exfalso
          have : rWay s (A 2 1) a a = 0 := by unfold rWay; rw [if_pos rfl]
          rw [this] at d2
          rcases d2 with z | z <;> exact absurd z (by decide)
        · rw [if_neg y]
          unfold rReachB
          split
          · rfl
          · next y3 =>
            rcases d2 with z | z
            · exact wm.mpr z
            · exact absurd (Or.inr (Or.inr (Or.inr z))) y3
      · rw [if_neg d2]
        simp only [n45, t45, ↓xh, ↓xst, ↓xrunE, ↓rG, rL, rSt, updA, List.elem_nil, List.elem_cons, Nat.reduceBEq, Bool.false_eq_true, if_false, if_true, true_and, and_true, true_or, or_true, not_false_eq_true, Nat.reduceAdd, Nat.reduceSub, Nat.reduceLeDiff, Nat.reduceEqDiff, Nat.reduceLT, ↓reduceIte, List.length_cons, List.length_nil, List.set_cons_zero, List.set_cons_succ, Nat.le_refl, Nat.zero_le, Nat.zero_sub, Nat.sub_zero, List.nil_append, List.cons_append, Option.toList_some, Option.toList_none, eq_self, show ¬ (1 : Int32) = 0 by decide]
        refine lk true (fun _ => ⟨zt, ?_⟩) (fun z => absurd rfl z) _
        unfold rHk
        rw [if_pos zt]
        by_cases y : a = k
        · subst y
          rw [if_pos rfl]
          unfold rWay
          rw [if_pos rfl]
        · rw [if_neg y]
          unfold rReachB
          have := hb.mp b1
          rcases this with z | z
          · exact absurd z y
          · rw [if_neg (by rintro (q | q | q | q); exact z (Or.inl q); exact z (Or.inr (Or.inl q)); exact z (Or.inr (Or.inr q)); exact d2 (Or.inr q))]
    refine XZ.runH 60 [34, 81] ?_
    by_cases c1 : a = k
    · subst c1
      have y := kn true ⟨fun _ => Or.inl rfl, fun _ => rfl⟩
      simp only [n45, t45, ↓xh, ↓xst, ↓xrunE, ↓rG, rL, rSt, updA, List.elem_nil, List.elem_cons, Nat.reduceBEq, Bool.false_eq_true, if_false, if_true, true_and, and_true, true_or, or_true, not_false_eq_true, Nat.reduceAdd, Nat.reduceSub, Nat.reduceLeDiff, Nat.reduceEqDiff, Nat.reduceLT, ↓reduceIte, List.length_cons, List.length_nil, List.set_cons_zero, List.set_cons_succ, Nat.le_refl, Nat.zero_le, Nat.zero_sub, Nat.sub_zero, List.nil_append, List.cons_append, Option.toList_some, Option.toList_none, eq_self, ↓cFx h1, m1.1.1, e]
      exact y
    have c1' : ¬ nI k = nI a := fun z => c1 (nI_inj (by omega) (by omega) z.symm)
    rcases rFst_rr s a (A 2 1) (A 2 1) 0 (by omega) with c2 | ⟨r, hr, er⟩
    · have er : rFst s a (A 2 1) 0 = -1 := by
        have key : ∀ l r, rFst s a l r = -1 ∨ ∃ j, rFst s a l r = nI j ∧ j < r + l := by
          intro l
          induction l with
          | zero => intro r; exact Or.inl rfl
          | succ l ih =>
            intro r
            rw [rFst]
            split
            · exact Or.inr ⟨r, rfl, by omega⟩
            · rcases ih (r + 1) with y | ⟨j, y, yj⟩
              · exact Or.inl y
              · exact Or.inr ⟨j, y, by omega⟩
        rcases key (A 2 1) 0 with y | ⟨j, y, yj⟩
        · exact y
        · rw [y] at c2
          exact absurd c2 (nI_pos (by omega))
      have y := kn false ⟨fun z => by (cases z), fun z => by rcases z with z | z; exact absurd z c1; exact absurd (Or.inl c2) z⟩
      rw [er] at y
      simp only [n45, t45, ↓xh, ↓xst, ↓xrunE, ↓rG, rL, rSt, updA, List.elem_nil, List.elem_cons, Nat.reduceBEq, Bool.false_eq_true, if_false, if_true, true_and, and_true, true_or, or_true, not_false_eq_true, Nat.reduceAdd, Nat.reduceSub, Nat.reduceLeDiff, Nat.reduceEqDiff, Nat.reduceLT, ↓reduceIte, List.length_cons, List.length_nil, List.set_cons_zero, List.set_cons_succ, Nat.le_refl, Nat.zero_le, Nat.zero_sub, Nat.sub_zero, List.nil_append, List.cons_append, Option.toList_some, Option.toList_none, eq_self, ↓cFx h1, m1.1.1, e, c1', er]
      exact y
    · have ir := nIx (show r < 6 by omega)
      have k8 : k < 8 := by omega
      have nr : ¬ nI r = -1 := nI_m1 (by omega)
      have pr := nI_pos (show r < 2 ^ 31 by omega)
      have e5 := (m1.2.2.1 r k hr k8).2.2
      have y := kn (decide (¬ s.2 7 (8 * r + k) < 0 ∧ ¬ s.2 11 (8 * r + k) = 0)) (by
        rw [er, nI_clamp (show r < 2 ^ 31 by omega)]
        simp only [decide_eq_true_eq]
        constructor
        · intro z
          exact Or.inr (by rintro (q | q | q); exact pr q; exact z.1 q; exact z.2 q)
        · rintro (z | z)
          · exact absurd z c1
          · exact ⟨fun q => z (Or.inr (Or.inl q)), fun q => z (Or.inr (Or.inr q))⟩)
      simp only [decide_eq_true_eq] at y
      rw [er] at y
      by_cases d : ¬ s.2 7 (8 * r + k) < 0 ∧ ¬ s.2 11 (8 * r + k) = 0
      · rw [if_pos d] at y e5
        simp only [n45, t45, ↓xh, ↓xst, ↓xrunE, ↓rG, rL, rSt, updA, List.elem_nil, List.elem_cons, Nat.reduceBEq, Bool.false_eq_true, if_false, if_true, true_and, and_true, true_or, or_true, not_false_eq_true, Nat.reduceAdd, Nat.reduceSub, Nat.reduceLeDiff, Nat.reduceEqDiff, Nat.reduceLT, ↓reduceIte, List.length_cons, List.length_nil, List.set_cons_zero, List.set_cons_succ, Nat.le_refl, Nat.zero_le, Nat.zero_sub, Nat.sub_zero, List.nil_append, List.cons_append, Option.toList_some, Option.toList_none, eq_self, ↓cFx h1, m1.1.1, e, c1', er, nr, ir, ik, hr, k8, ↓cRo h1 hr, ↓cEn h1 hr k8, e5, show ¬ (1 : Int32) = 0 by decide]
        exact y
      · rw [if_neg d] at y e5
        simp only [n45, t45, ↓xh, ↓xst, ↓xrunE, ↓rG, rL, rSt, updA, List.elem_nil, List.elem_cons, Nat.reduceBEq, Bool.false_eq_true, if_false, if_true, true_and, and_true, true_or, or_true, not_false_eq_true, Nat.reduceAdd, Nat.reduceSub, Nat.reduceLeDiff, Nat.reduceEqDiff, Nat.reduceLT, ↓reduceIte, List.length_cons, List.length_nil, List.set_cons_zero, List.set_cons_succ, Nat.le_refl, Nat.zero_le, Nat.zero_sub, Nat.sub_zero, List.nil_append, List.cons_append, Option.toList_some, Option.toList_none, eq_self, ↓cFx h1, m1.1.1, e, c1', er, nr, ir, ik, hr, k8, ↓cRo h1 hr, ↓cEn h1 hr k8, e5]
        exact y
end LKA
