/-! a look -/
theorem jEq_1 {f g : Nat → Int32} {n : Nat} (hg : g 0 = 42) : (n = 1 ∧ jEq f g n 0 = true) ↔ (n = 1 ∧ f 0 = 42) := by
  constructor
  · rintro ⟨rfl, h⟩
    rw [jEq, jEq, hg] at h
    split at h
    · next z => exact ⟨rfl, z⟩
    · cases h
  · rintro ⟨rfl, h⟩
    refine ⟨rfl, ?_⟩
    rw [jEq, jEq, hg, if_pos h]
/-- the zone that a pattern asks for -/
def zAsk (s : rS) (Z nz : Nat) (gz : Nat → Int32) : Option Nat → Prop
  | none => nz = 1 ∧ gz 0 = 42
  | some q => ¬ (nz = 1 ∧ gz 0 = 42) ∧ nz = Z - q ∧ q ≤ Z ∧ tX gz s q (Z - q)
section LOK
variable {E : xE} {B nx : Nat} {M : xM} {A : cA} {v : cV} {s : rS} {Q : Option Value → xM → Nat → Prop}
set_option maxRecDepth 100000 in
set_option maxHeartbeats 4000000 in
theorem mc45 {a zo zp nz Z nn : Nat} {gz : Nat → Int32} {p : Option Nat} (h : cR E B M M A v) (he : nX E M) (hm : cM A v s) (hnm : cNm nn M A s) (ha : a < A 2 0) (jz : jS M zo zp nz gz) (nz1 : ¬ ccl A zo ∧ ¬ ccl A zp) (hz : zAsk s Z nz gz p)
    (hq : ∀ M' v', cR E B M M' A v' → (∀ kd, kd ≠ 2 → v' kd = v kd) → (∀ k, k < A 2 0 → v' 2 0 k = rReach s (A 2 1) Z a k p) → Q none M' nx) : XC E 45 [.ref (A 0 0 + 3), .int (nI a), .ref zo, .ref (A 0 0 + 10)] M nx Q := by
  have hN := h.1.2.1
  obtain ⟨_, _, ⟨ps, fs, jst, es, _, _⟩, _⟩ := he
  have ia := nIx (show a < 8 by omega)
  refine XC.run 60 [34] ?_
  simp only [n45, n146, t45, ↓xh, ↓xst, ↓xrunE, ↓rG, rL, rSt, updA, List.elem_nil, List.elem_cons, Nat.reduceBEq, Bool.false_eq_true, if_false, if_true, true_and, and_true, true_or, or_true, not_false_eq_true, Nat.reduceAdd, Nat.reduceSub, Nat.reduceLeDiff, Nat.reduceEqDiff, Nat.reduceLT, ↓reduceIte, List.length_cons, List.length_nil, List.set_cons_zero, List.set_cons_succ, Nat.le_refl, Nat.zero_le, Nat.zero_sub, Nat.sub_zero, List.nil_append, List.cons_append, Option.toList_some, Option.toList_none, eq_self, ↓jO jz]
  refine jd146 jz jst ?_
  refine XZ.runH 60 [34] ?_
  have st := jEq_1 (f := gz) (n := nz) es
  cases p with
  | none =>
    have d : nz = 1 ∧ jEq gz fs nz 0 = true := st.mpr hz
    rw [if_pos d]
    simp only [n45, n46, t45, ↓xh, ↓xst, ↓xrunE, ↓rG, rL, rSt, updA, List.elem_nil, List.elem_cons, Nat.reduceBEq, Bool.false_eq_true, if_false, if_true, true_and, and_true, true_or, or_true, not_false_eq_true, Nat.reduceAdd, Nat.reduceSub, Nat.reduceLeDiff, Nat.reduceEqDiff, Nat.reduceLT, ↓reduceIte, List.length_cons, List.length_nil, List.set_cons_zero, List.set_cons_succ, Nat.le_refl, Nat.zero_le, Nat.zero_sub, Nat.sub_zero, List.nil_append, List.cons_append, Option.toList_some, Option.toList_none, eq_self, show ¬ (1 : Int32) = 0 by decide, ↓cFx h, ia, ha, ↓cNw h ha]
    refine mc46 h hm (by omega) ?_
    refine XZ.runH 60 [34] ?_
    simp only [n45, t45, ↓xh, ↓xst, ↓xrunE, ↓rG, rL, rSt, updA, List.elem_nil, List.elem_cons, Nat.reduceBEq, Bool.false_eq_true, if_false, if_true, true_and, and_true, true_or, or_true, not_false_eq_true, Nat.reduceAdd, Nat.reduceSub, Nat.reduceLeDiff, Nat.reduceEqDiff, Nat.reduceLT, ↓reduceIte, List.length_cons, List.length_nil, List.set_cons_zero, List.set_cons_succ, Nat.le_refl, Nat.zero_le, Nat.zero_sub, Nat.sub_zero, List.nil_append, List.cons_append, Option.toList_some, Option.toList_none, eq_self]
    obtain ⟨ga, ja, wa, n1, n2, _⟩ := hnm a (Or.inl ha)
    refine ml45 (zm := fun k => rZm s Z a k none) hm ha ja ⟨n1, n2⟩ (fun k hk => ?_) hq (A 2 0) 0 M v _ _ (by omega) h (fun _ _ => rfl) (fun j hj => by omega)
    obtain ⟨gk, jk, wk, m1, m2, _⟩ := hnm k (Or.inl hk)
    refine ⟨gk, rLn s k, jk, m1, m2, ?_⟩
    have := tSame wk wa
    show _ ↔ rSame s k a = true
    rw [← this]
    simp
  | some q =>
    obtain ⟨d0, dn, dq, dx⟩ := hz
    have d : ¬ (nz = 1 ∧ jEq gz fs nz 0 = true) := fun y => d0 (st.mp y)
    rw [if_neg d]
    simp only [n45, n46, t45, ↓xh, ↓xst, ↓xrunE, ↓rG, rL, rSt, updA, List.elem_nil, List.elem_cons, Nat.reduceBEq, Bool.false_eq_true, if_false, if_true, true_and, and_true, true_or, or_true, not_false_eq_true, Nat.reduceAdd, Nat.reduceSub, Nat.reduceLeDiff, Nat.reduceEqDiff, Nat.reduceLT, ↓reduceIte, List.length_cons, List.length_nil, List.set_cons_zero, List.set_cons_succ, Nat.le_refl, Nat.zero_le, Nat.zero_sub, Nat.sub_zero, List.nil_append, List.cons_append, Option.toList_some, Option.toList_none, eq_self, ↓cFx h]
    refine mc46 h hm (by omega) ?_
    refine XZ.runH 60 [34] ?_
    simp only [n45, t45, ↓xh, ↓xst, ↓xrunE, ↓rG, rL, rSt, updA, List.elem_nil, List.elem_cons, Nat.reduceBEq, Bool.false_eq_true, if_false, if_true, true_and, and_true, true_or, or_true, not_false_eq_true, Nat.reduceAdd, Nat.reduceSub, Nat.reduceLeDiff, Nat.reduceEqDiff, Nat.reduceLT, ↓reduceIte, List.length_cons, List.length_nil, List.set_cons_zero, List.set_cons_succ, Nat.le_refl, Nat.zero_le, Nat.zero_sub, Nat.sub_zero, List.nil_append, List.cons_append, Option.toList_some, Option.toList_none, eq_self]
    refine ml45 (zm := fun k => rZm s Z a k (some q)) hm ha jz nz1 (fun k hk => ?_) hq (A 2 0) 0 M v _ _ (by omega) h (fun _ _ => rfl) (fun j hj => by omega)
    obtain ⟨gk, jk, wk, m1, m2, _⟩ := hnm k (Or.inl hk)
    refine ⟨gk, rLn s k, jk, m1, m2, ?_⟩
    have := tZm dq dx wk
    show _ ↔ (decide (rLn s k = Z - q) && rStands s k 0 q Z) = true
    rw [← this, dn]
    simp
set_option maxRecDepth 100000 in
set_option maxHeartbeats 4000000 in
theorem ml24i {a pt kr Z c t hh : Nat} {p : Option Nat} (hk : kr = 1 ∨ kr = 3) (hc7 : v 0 0 7 = nI (A 2 2)) (h16 : hh < 16) (h8 : ∀ i, i < A 2 2 → v 19 i 0 = nI (rHm s i) ∧ rHm s i < A 2 0) (v2 : ∀ k, k < A 2 0 → v 2 0 k = rReach s (A 2 1) Z a k p)
    (hfit : ∀ i, i < A 2 2 → ∀ M1 v1, cR E B M M1 A v1 → (∀ kd, kd ≠ kr → v1 kd = v kd) → ∀ Q' : Option Value → xM → Nat → Prop, Q' (some (.int (if rMt s c t i = true then 1 else 0))) M1 nx → XC E 62 [.ref (A 5 i), .ref pt] M1 nx Q') :
    ∀ l i x M1 v1 l7 l8, i + l = A 2 2 → x.1 = rCn' (rPq s (A 2 1) Z a c t p) hh i (A 2 2) → cR E B M M1 A v1 → (∀ kd, kd ≠ kr → v1 kd = v kd) → v1 kr 0 = x.2 → (∀ M' v' l7 l8, cR E B M M' A v' → (∀ kd, kd ≠ kr → v' kd = v kd) → v' kr 0 = (rSi (rPq s (A 2 1) Z a c t p) hh l i x).2 → XZ E 24 (xZ E 24 Q) 108 [some (.ref (A 0 0)), some (.int (nI a)), some (.ref pt), some (.ref (cad A kr 0)), some (.int (nI (rSi (rPq s (A 2 1) Z a c t p) hh l i x).1)), some (.int (nI hh)), some (.int (nI (A 2 2))), l7, l8] [] M' nx 0 0) →
    XZ E 24 (xZ E 24 Q) 32 [some (.ref (A 0 0)), some (.int (nI a)), some (.ref pt), some (.ref (cad A kr 0)), some (.int (nI x.1)), some (.int (nI hh)), some (.int (nI i)), l7, l8] [] M1 nx 0 0 := by
  have lv : clv A kr 0 := by rcases hk with rfl | rfl <;> exact ⟨rfl, by decide⟩
  have ect : ∀ g, cct A kr 0 g = .inr (0, 16, fun k => .int (g k)) := by rcases hk with rfl | rfl <;> exact fun _ => rfl
  have kr0 : (0 : Nat) ≠ kr := by omega
  have kr2 : (2 : Nat) ≠ kr := by omega
  have kr19 : (19 : Nat) ≠ kr := by omega
  intro l
  induction l with
  | zero =>
    intro i x M1 v1 l7 l8 hi hx h1 k1 e1 hq
    obtain rfl : i = A 2 2 := by omega
    have hS := h1.1.2.2.2.1
    have e := eT (nI_le (Nat.le_refl (A 2 2)) (show A 2 2 < 2 ^ 31 by omega))
    refine XZ.runH 60 [32, 108] ?_
    simp only [n24, t24, ↓xh, ↓xst, ↓xrunE, ↓rG, rL, rSt, updA, List.elem_nil, List.elem_cons, Nat.reduceBEq, Bool.false_eq_true, if_false, if_true, true_and, and_true, true_or, or_true, not_false_eq_true, Nat.reduceAdd, Nat.reduceSub, Nat.reduceLeDiff, Nat.reduceEqDiff, Nat.reduceLT, ↓reduceIte, List.length_cons, List.length_nil, List.set_cons_zero, List.set_cons_succ, Nat.le_refl, Nat.zero_le, Nat.zero_sub, Nat.sub_zero, List.nil_append, List.cons_append, Option.toList_some, Option.toList_none, eq_self, ↓cFx h1, k1 0 kr0, hc7, e]
    exact hq M1 v1 l7 l8 h1 k1 e1
  | succ l ih =>
    intro i x M1 v1 l7 l8 hi hx h1 k1 e1 hq
    have hS := h1.1.2.2.2.1
    have hN := h1.1.2.1
    have iS : i < A 2 2 := by omega
    have e := eF (nI_ge iS (show A 2 2 < 2 ^ 31 by omega))
    have ii := nIx (show i < 16 by omega)
    obtain ⟨s0, sN⟩ := h8 i iS
    have in' := nIx (show rHm s i < 8 by omega)
    have rd := v2 (rHm s i) sN
    have rowr : ∀ P, xarr M1 (cad A kr 0) P = P 0 16 (fun k => .int (v1 kr 0 k)) := fun P => xhar (by rw [h1.2.1 kr 0 lv, ect])
    have bw : xb E ≤ cad A kr 0 := h1.1.lo lv
    have nextx : ∀ y : Nat × (Nat → Int32), y.1 = rCn' (rPq s (A 2 1) Z a c t p) hh (i + 1) (A 2 2) ↔ y.1 = rCn' (rPq s (A 2 1) Z a c t p) hh i (A 2 2) + (if rPq s (A 2 1) Z a c t p i = hh ∧ i < A 2 2 then 1 else 0) := fun y => by rw [rCn_s]
    rw [rSi] at hq
    have skip : ¬ rPq s (A 2 1) Z a c t p i = hh → ∀ l7 l8, XZ E 24 (xZ E 24 Q) 32 [some (.ref (A 0 0)), some (.int (nI a)), some (.ref pt), some (.ref (cad A kr 0)), some (.int (nI x.1)), some (.int (nI hh)), some (.int (nI (i + 1))), l7, l8] [] M1 nx 0 0 := by
      intro z l7 l8
      rw [if_neg z] at hq
      exact ih (i + 1) x M1 v1 l7 l8 (by omega) ((nextx x).mpr (by rw [if_neg (fun y => z y.1)]; exact hx)) h1 k1 e1 hq
    have fin : ∀ b : Bool, (b = true ↔ rPq s (A 2 1) Z a c t p i = hh) → ∀ l7, XZ E 24 (xZ E 24 Q) 81 [some (.ref (A 0 0)), some (.int (nI a)), some (.ref pt), some (.ref (cad A kr 0)), some (.int (nI x.1)), some (.int (nI hh)), some (.int (nI i)), l7, some (.int (if b = true then 1 else 0))] [] M1 nx 0 0 := by
      intro b hb l7
      refine XZ.runH 60 [32, 102] ?_
      by_cases b1 : b = true
      rotate_left
      · rw [if_neg b1]
        simp only [n24, t24, ↓xh, ↓xst, ↓xrunE, ↓rG, rL, rSt, updA, List.elem_nil, List.elem_cons, Nat.reduceBEq, Bool.false_eq_true, if_false, if_true, true_and, and_true, true_or, or_true, not_false_eq_true, Nat.reduceAdd, Nat.reduceSub, Nat.reduceLeDiff, Nat.reduceEqDiff, Nat.reduceLT, ↓reduceIte, List.length_cons, List.length_nil, List.set_cons_zero, List.set_cons_succ, Nat.le_refl, Nat.zero_le, Nat.zero_sub, Nat.sub_zero, List.nil_append, List.cons_append, Option.toList_some, Option.toList_none, eq_self]
        refine XZ.runH 60 [32] ?_
        simp only [n24, t24, ↓xh, ↓xst, ↓xrunE, ↓rG, rL, rSt, updA, List.elem_nil, List.elem_cons, Nat.reduceBEq, Bool.false_eq_true, if_false, if_true, true_and, and_true, true_or, or_true, not_false_eq_true, Nat.reduceAdd, Nat.reduceSub, Nat.reduceLeDiff, Nat.reduceEqDiff, Nat.reduceLT, ↓reduceIte, List.length_cons, List.length_nil, List.set_cons_zero, List.set_cons_succ, Nat.le_refl, Nat.zero_le, Nat.zero_sub, Nat.sub_zero, List.nil_append, List.cons_append, Option.toList_some, Option.toList_none, eq_self, nI_1]
        have := skip (fun z => b1 (hb.mpr z)) l7 (some (.int (if b = true then 1 else 0)))
        rw [if_neg b1] at this
        exact this
      have qi := hb.mp b1
      have c16 : x.1 < 16 := by
        have := rCn_lt (rPq s (A 2 1) Z a c t p) i (A 2 2) iS
        rw [qi] at this
        omega
      have ix := nIx c16
      have g16 : ¬ nI 16 ≤ nI x.1 := nI_ge c16 (by decide)
      rw [if_pos qi] at hq
      rw [if_pos b1]
      simp only [n24, t24, ↓xh, ↓xst, ↓xrunE, ↓rG, rL, rSt, updA, List.elem_nil, List.elem_cons, Nat.reduceBEq, Bool.false_eq_true, if_false, if_true, true_and, and_true, true_or, or_true, not_false_eq_true, Nat.reduceAdd, Nat.reduceSub, Nat.reduceLeDiff, Nat.reduceEqDiff, Nat.reduceLT, ↓reduceIte, List.length_cons, List.length_nil, List.set_cons_zero, List.set_cons_succ, Nat.le_refl, Nat.zero_le, Nat.zero_sub, Nat.sub_zero, List.nil_append, List.cons_append, Option.toList_some, Option.toList_none, eq_self, show ¬ (1 : Int32) = 0 by decide, ↓rowr, ofN, g16, ix, bw, xn0, updVi, nI_1]
      refine XZ.abs2 (P := fun M' => cR E B M M' A (uv v1 kr 0 (upd (v1 kr 0) x.1 (nI i)))) (h1.pw kr 0 lv _ rfl (by rw [ect]; rfl)) (fun M2 h2 => ?_)
      refine XZ.runH 60 [32] ?_
      simp only [n24, t24, ↓xh, ↓xst, ↓xrunE, ↓rG, rL, rSt, updA, List.elem_nil, List.elem_cons, Nat.reduceBEq, Bool.false_eq_true, if_false, if_true, true_and, and_true, true_or, or_true, not_false_eq_true, Nat.reduceAdd, Nat.reduceSub, Nat.reduceLeDiff, Nat.reduceEqDiff, Nat.reduceLT, ↓reduceIte, List.length_cons, List.length_nil, List.set_cons_zero, List.set_cons_succ, Nat.le_refl, Nat.zero_le, Nat.zero_sub, Nat.sub_zero, List.nil_append, List.cons_append, Option.toList_some, Option.toList_none, eq_self, nI_1]
      refine ih (i + 1) (x.1 + 1, fun k => if k = x.1 then nI i else x.2 k) M2 _ _ _ (by omega) ((nextx _).mpr (by rw [if_pos ⟨qi, iS⟩]; dsimp only; rw [hx])) h2 (fun kd hk => by rw [uv_k hk]; exact k1 kd hk) (by rw [uv_s, e1]; rfl) hq
    refine XZ.runH 60 [32, 81] ?_
    by_cases d1 : rReach s (A 2 1) Z a (rHm s i) p = nI hh
    rotate_left
    · have nq : ¬ rPq s (A 2 1) Z a c t p i = hh := by
        unfold rPq
        split
        · exact fun z => d1 ((rQn_e h16).mp z)
        · omega
      have y := fin false ⟨fun z => by (cases z), fun z => absurd z nq⟩
      simp only [n24, t24, ↓xh, ↓xst, ↓xrunE, ↓rG, rL, rSt, updA, List.elem_nil, List.elem_cons, Nat.reduceBEq, Bool.false_eq_true, if_false, if_true, true_and, and_true, true_or, or_true, not_false_eq_true, Nat.reduceAdd, Nat.reduceSub, Nat.reduceLeDiff, Nat.reduceEqDiff, Nat.reduceLT, ↓reduceIte, List.length_cons, List.length_nil, List.set_cons_zero, List.set_cons_succ, Nat.le_refl, Nat.zero_le, Nat.zero_sub, Nat.sub_zero, List.nil_append, List.cons_append, Option.toList_some, Option.toList_none, eq_self, ↓cFx h1, k1 0 kr0, hc7, e, ii, iS, ↓cSv h1 iS, k1 19 kr19, s0, in', k1 2 kr2, rd, d1]
      exact y _
    simp only [n24, n62, t24, ↓xh, ↓xst, ↓xrunE, ↓rG, rL, rSt, updA, List.elem_nil, List.elem_cons, Nat.reduceBEq, Bool.false_eq_true, if_false, if_true, true_and, and_true, true_or, or_true, not_false_eq_true, Nat.reduceAdd, Nat.reduceSub, Nat.reduceLeDiff, Nat.reduceEqDiff, Nat.reduceLT, ↓reduceIte, List.length_cons, List.length_nil, List.set_cons_zero, List.set_cons_succ, Nat.le_refl, Nat.zero_le, Nat.zero_sub, Nat.sub_zero, List.nil_append, List.cons_append, Option.toList_some, Option.toList_none, eq_self, ↓cFx h1, k1 0 kr0, hc7, e, ii, iS, ↓cSv h1 iS, k1 19 kr19, s0, in', k1 2 kr2, rd, d1]
    refine hfit i iS M1 v1 h1 k1 _ ?_
    refine XZ.runH 60 [32, 81] ?_
    have qq : rMt s c t i = true ↔ rPq s (A 2 1) Z a c t p i = hh := by
      unfold rPq
      by_cases z : rMt s c t i = true
      · rw [if_pos z]
        exact ⟨fun _ => (rQn_e h16).mpr d1, fun _ => z⟩
      · rw [if_neg z]
        exact ⟨fun y => absurd y z, fun y => by omega⟩
    have y := fin (rMt s c t i) qq
    by_cases d2 : rMt s c t i = true
    · rw [if_pos d2] at y ⊢
      simp only [n24, t24, ↓xh, ↓xst, ↓xrunE, ↓rG, rL, rSt, updA, List.elem_nil, List.elem_cons, Nat.reduceBEq, Bool.false_eq_true, if_false, if_true, true_and, and_true, true_or, or_true, not_false_eq_true, Nat.reduceAdd, Nat.reduceSub, Nat.reduceLeDiff, Nat.reduceEqDiff, Nat.reduceLT, ↓reduceIte, List.length_cons, List.length_nil, List.set_cons_zero, List.set_cons_succ, Nat.le_refl, Nat.zero_le, Nat.zero_sub, Nat.sub_zero, List.nil_append, List.cons_append, Option.toList_some, Option.toList_none, eq_self, show ¬ (1 : Int32) = 0 by decide]
      exact y _
    · rw [if_neg d2] at y ⊢
      simp only [n24, t24, ↓xh, ↓xst, ↓xrunE, ↓rG, rL, rSt, updA, List.elem_nil, List.elem_cons, Nat.reduceBEq, Bool.false_eq_true, if_false, if_true, true_and, and_true, true_or, or_true, not_false_eq_true, Nat.reduceAdd, Nat.reduceSub, Nat.reduceLeDiff, Nat.reduceEqDiff, Nat.reduceLT, ↓reduceIte, List.length_cons, List.length_nil, List.set_cons_zero, List.set_cons_succ, Nat.le_refl, Nat.zero_le, Nat.zero_sub, Nat.sub_zero, List.nil_append, List.cons_append, Option.toList_some, Option.toList_none, eq_self]
      exact y _
set_option maxRecDepth 100000 in
set_option maxHeartbeats 4000000 in
theorem ml24h {a pt kr Z c t : Nat} {p : Option Nat} (hk : kr = 1 ∨ kr = 3) (hc7 : v 0 0 7 = nI (A 2 2)) (h8 : ∀ i, i < A 2 2 → v 19 i 0 = nI (rHm s i) ∧ rHm s i < A 2 0) (v2 : ∀ k, k < A 2 0 → v 2 0 k = rReach s (A 2 1) Z a k p)
    (hfit : ∀ i, i < A 2 2 → ∀ M1 v1, cR E B M M1 A v1 → (∀ kd, kd ≠ kr → v1 kd = v kd) → ∀ Q' : Option Value → xM → Nat → Prop, Q' (some (.int (if rMt s c t i = true then 1 else 0))) M1 nx → XC E 62 [.ref (A 5 i), .ref pt] M1 nx Q') :
    ∀ l hh x M1 v1 l6 l7 l8, hh + l = 16 → x.1 = rCn' (rPq s (A 2 1) Z a c t p) hh 0 (A 2 2) → cR E B M M1 A v1 → (∀ kd, kd ≠ kr → v1 kd = v kd) → v1 kr 0 = x.2 → (∀ M' v', cR E B M M' A v' → (∀ kd, kd ≠ kr → v' kd = v kd) → v' kr 0 = (rSh (rPq s (A 2 1) Z a c t p) (A 2 2) l hh x).2 → Q (some (.int (nI (rSh (rPq s (A 2 1) Z a c t p) (A 2 2) l hh x).1))) M' nx) →
    XZ E 24 (xZ E 24 Q) 22 [some (.ref (A 0 0)), some (.int (nI a)), some (.ref pt), some (.ref (cad A kr 0)), some (.int (nI x.1)), some (.int (nI hh)), l6, l7, l8] [] M1 nx 0 0 := by
  intro l
  induction l with
  | zero =>
    intro hh x M1 v1 l6 l7 l8 hl hx h1 k1 e1 hq
    obtain rfl : hh = 16 := by omega
    refine XZ.runH 60 [22] ?_
    simp only [n24, t24, ↓xh, ↓xst, ↓xrunE, ↓rG, rL, rSt, updA, List.elem_nil, List.elem_cons, Nat.reduceBEq, Bool.false_eq_true, if_false, if_true, true_and, and_true, true_or, or_true, not_false_eq_true, Nat.reduceAdd, Nat.reduceSub, Nat.reduceLeDiff, Nat.reduceEqDiff, Nat.reduceLT, ↓reduceIte, List.length_cons, List.length_nil, List.set_cons_zero, List.set_cons_succ, Nat.le_refl, Nat.zero_le, Nat.zero_sub, Nat.sub_zero, List.nil_append, List.cons_append, Option.toList_some, Option.toList_none, eq_self, show (15 : Int32) < nI 16 by decide]
    exact hq M1 v1 h1 k1 e1
  | succ l ih =>
    intro hh x M1 v1 l6 l7 l8 hl hx h1 k1 e1 hq
    have e15 : ¬ (15 : Int32) < nI hh := k2_nlt (nI_le (b := 15) (show hh ≤ 15 by omega) (by decide))
    rw [rSh] at hq
    refine XZ.runH 60 [22, 32] ?_
    simp only [n24, t24, ↓xh, ↓xst, ↓xrunE, ↓rG, rL, rSt, updA, List.elem_nil, List.elem_cons, Nat.reduceBEq, Bool.false_eq_true, if_false, if_true, true_and, and_true, true_or, or_true, not_false_eq_true, Nat.reduceAdd, Nat.reduceSub, Nat.reduceLeDiff, Nat.reduceEqDiff, Nat.reduceLT, ↓reduceIte, List.length_cons, List.length_nil, List.set_cons_zero, List.set_cons_succ, Nat.le_refl, Nat.zero_le, Nat.zero_sub, Nat.sub_zero, List.nil_append, List.cons_append, Option.toList_some, Option.toList_none, eq_self, e15]
    refine ml24i hk hc7 (by omega) h8 v2 hfit (A 2 2) 0 x M1 v1 _ _ (by omega) hx h1 k1 e1 (fun M2 v2' l7 l8 h2 k2 e2 => ?_)
    refine XZ.runH 60 [22] ?_
    simp only [n24, t24, ↓xh, ↓xst, ↓xrunE, ↓rG, rL, rSt, updA, List.elem_nil, List.elem_cons, Nat.reduceBEq, Bool.false_eq_true, if_false, if_true, true_and, and_true, true_or, or_true, not_false_eq_true, Nat.reduceAdd, Nat.reduceSub, Nat.reduceLeDiff, Nat.reduceEqDiff, Nat.reduceLT, ↓reduceIte, List.length_cons, List.length_nil, List.set_cons_zero, List.set_cons_succ, Nat.le_refl, Nat.zero_le, Nat.zero_sub, Nat.sub_zero, List.nil_append, List.cons_append, Option.toList_some, Option.toList_none, eq_self, nI_1]
    refine ih (hh + 1) _ M2 v2' _ _ _ (by omega) ?_ h2 k2 e2 hq
    rw [rSi_n (rPq s (A 2 1) Z a c t p) hh (A 2 2) (A 2 2) 0 x (by omega) hx, rCn_h (rPq s (A 2 1) Z a c t p) hh (A 2 2) (A 2 2) (Nat.le_refl _)]
theorem pPt.mv {P : Nat → Prop} {M M' : xM} {nx nx' pt no nt nz : Nat} {go gt gz : Nat → Int32} (h : pPt P M nx pt no go nt gt nz gz) (e : ∀ q, P q → q < nx → M' q = M q) (hn : nx ≤ nx') : pPt P M' nx' pt no go nt gt nz gz := by
  obtain ⟨o, op, ty, tp, z, zp, m, jo, jt, jz, ⟨p1, p2, p3, p4, p5, p6, p7⟩, ⟨l1, l2, l3, l4, l5, l6, l7⟩⟩ := h
  exact ⟨o, op, ty, tp, z, zp, by rw [e pt p1 l1]; exact m, jo.mv (e o p2 l2) (e op p3 l3), jt.mv (e ty p4 l4) (e tp p5 l5), jz.mv (e z p6 l6) (e zp p7 l7), ⟨p1, p2, p3, p4, p5, p6, p7⟩, ⟨by omega, by omega, by omega, by omega, by omega, by omega, by omega⟩⟩
set_option maxRecDepth 100000 in
set_option maxHeartbeats 4000000 in
theorem mc24 {a pt kr Z c t nz nn : Nat} {p : Option Nat} {go gt gz : Nat → Int32} (h : cR E B M M A v) (he : nX E M) (hm : cQ A v s) (hnm : cNm nn M A s) (hh : cH A s) (hk : kr = 1 ∨ kr = 3) (ha : a < A 2 0) (hp : pPt (fun q => ¬ ccl A q) M nx pt c go (t - (c + 1)) gt nz gz) (hz : zAsk s Z nz gz p) (hc : c < t) (ht : t ≤ 32) (xo : tX go s 0 c) (xt : tX gt s (c + 1) (t - (c + 1))) (mo : rMask s 0 c = true) (mt : rMask s (c + 1) t = true)
    (hq : ∀ M' v', cR E B M M' A v' → (∀ kd, kd ≠ 2 → kd ≠ kr → v' kd = v kd) → v' kr 0 = (rSh (rPq s (A 2 1) Z a c t p) (A 2 2) 16 0 (0, v kr 0)).2 → Q (some (.int (nI (rSh (rPq s (A 2 1) Z a c t p) (A 2 2) 16 0 (0, v kr 0)).1))) M' nx) : XC E 24 [.ref (A 0 0), .int (nI a), .ref pt, .ref (cad A kr 0)] M nx Q := by
  obtain ⟨o, op, ty, tp, zo, zp, mp, jo, jt, jz, ⟨p1, p2, p3, p4, p5, p6, p7⟩, _⟩ := id hp
  refine XC.run 60 [22] ?_
  simp only [n24, n45, t24, ↓xh, ↓xst, ↓xrunE, ↓rG, rL, rSt, updA, List.elem_nil, List.elem_cons, Nat.reduceBEq, Bool.false_eq_true, if_false, if_true, true_and, and_true, true_or, or_true, not_false_eq_true, Nat.reduceAdd, Nat.reduceSub, Nat.reduceLeDiff, Nat.reduceEqDiff, Nat.reduceLT, ↓reduceIte, List.length_cons, List.length_nil, List.set_cons_zero, List.set_cons_succ, Nat.le_refl, Nat.zero_le, Nat.zero_sub, Nat.sub_zero, List.nil_append, List.cons_append, Option.toList_some, Option.toList_none, eq_self, ↓cFx h, ↓cO mp]
  refine mc45 h he hm.1 hnm ha jz ⟨p6, p7⟩ hz (fun M1 v1 h1 k1 e1 => ?_)
  refine XZ.runH 60 [22] ?_
  simp only [n24, t24, ↓xh, ↓xst, ↓xrunE, ↓rG, rL, rSt, updA, List.elem_nil, List.elem_cons, Nat.reduceBEq, Bool.false_eq_true, if_false, if_true, true_and, and_true, true_or, or_true, not_false_eq_true, Nat.reduceAdd, Nat.reduceSub, Nat.reduceLeDiff, Nat.reduceEqDiff, Nat.reduceLT, ↓reduceIte, List.length_cons, List.length_nil, List.set_cons_zero, List.set_cons_succ, Nat.le_refl, Nat.zero_le, Nat.zero_sub, Nat.sub_zero, List.nil_append, List.cons_append, Option.toList_some, Option.toList_none, eq_self]
  have kr2 : kr ≠ 2 := by omega
  have key := ml24h (E := E) (B := B) (nx := nx) (M := M1) (A := A) (v := v1) (s := s) (Q := Q) (a := a) (pt := pt) (Z := Z) (c := c) (t := t) (p := p) hk (by rw [k1 0 (by decide)]; exact hm.2.1.2.1.1) (fun i hi => ?_) e1 (fun i hi M2 v2 h2 k2 Q' hq' => ?_) 16 0 (0, v kr 0) M1 v1 none none none rfl (by rw [rCn_0]) h1.rf (fun _ _ => rfl) (by rw [k1 kr kr2]) (fun M' v' h' k' e' => hq M' v' (cR.tr h1.2.2 h') (fun kd h2 hk' => (k' kd hk').trans (k1 kd h2)) e')
  · exact key
  · rw [k1 19 (by decide)]
    obtain ⟨b, hb, eb, lb⟩ := hh.2.1 i hi
    refine ⟨(hm.2.2.2.1 i hi).1, ?_⟩
    unfold rHm
    rw [eb, nI_clamp (by omega)]
    exact lb
  · have fr : ∀ q, ¬ ccl A q → M2 q = M q := fun q hq => (h2.2.2 q hq).trans (h1.2.2 q hq)
    obtain ⟨g1, j1, w1, a1, a2, _⟩ := hnm (8 + i) (Or.inr (Or.inl ⟨by omega, by omega⟩))
    obtain ⟨g2, j2, w2, b1, b2, _⟩ := hnm (24 + i) (Or.inr (Or.inr ⟨by omega, by omega⟩))
    have hS := h.1.2.2.2.1
    have he2 : nX E M2 := he.mv (fun q hq => fr q (fun ⟨kd, i, hl, e⟩ => by have := h.1.lo hl; omega))
    refine mc62 h2 he2.e hi (by rw [k2 19 (by omega), k1 19 (by decide)]; exact (hm.2.2.2.1 i hi).2.2.1) (hp.mv (fun q hq _ => fr q hq) (Nat.le_refl nx)) (j1.mv (fr _ a1) (fr _ a2)) (j2.mv (fr _ b1) (fr _ b2)) ?_
    have f1 := tFits (by omega) xo w1 (by rw [Nat.zero_add]; exact mo)
    have f2 := tFits (by omega) xt w2 (by rw [show c + 1 + (t - (c + 1)) = t by omega]; exact mt)
    rw [Nat.zero_add] at f1
    rw [show c + 1 + (t - (c + 1)) = t by omega] at f2
    rw [f1, f2]
    exact hq'
end LOK
