/-! name -/
theorem cQ.nam {A A' : cA} {v v' : cV} {s : rS} {Z a c : Nat} (h : cQ A v s) (hh : cH A s) (hS : A 2 2 < 16) (hc : c < 32) (hZ : Z ≤ 32) (ha : a < 64) (hT : ∃ T, T < 2 ^ 30 ∧ s.1 21 = nI T)
    (a0 : A' 2 0 = A 2 0) (a1 : A' 2 1 = A 2 1) (a2 : A' 2 2 = A 2 2 + 1) (a3 : A' 2 3 = A 2 3) (a10 : ∀ c, c < A 2 3 → A' 10 c = A 10 c)
    (k : ∀ kd, kd ≠ 0 → kd ≠ 2 → kd ≠ 3 → kd ≠ 11 → kd ≠ 19 → kd ≠ 20 → v' kd = v kd) (k11 : ∀ q, q < 8 * A 2 2 → v' 11 q = v 11 q) (k19 : ∀ i, i < A 2 2 → v' 19 i = v 19 i ∧ v' 20 i = v 20 i) (kS : v' 19 (A 2 2) = w [nI (a / 8), 0, 0, 0, 0, 0] ∧ v' 20 (A 2 2) = zE ∧ ∀ k, k < 8 → v' 11 (8 * A 2 2 + k) = zE)
    (k0 : v' 0 0 0 = v 0 0 0 ∧ v' 0 0 1 = v 0 0 1 ∧ v' 0 0 2 = v 0 0 2 ∧ v' 0 0 7 = nI (A 2 2 + 1) ∧ v' 0 0 9 = v 0 0 9 ∧ v' 0 0 14 = v 0 0 14) : cQ A' v' (rNs s (A 2 2) Z a c) := by
  obtain ⟨m, n, l, sv, se⟩ := h
  obtain ⟨u, u16, _⟩ := rNs_v (s := s) (Z := Z) (a := a) (c := c) hS hc hZ
  have z : ∀ f, f ≠ 4 → f ≠ 22 → (rNs s (A 2 2) Z a c).1 f = s.1 f := fun f h4 h22 => by simp [rNs, upd, h4, h22]
  have z22 : (rNs s (A 2 2) Z a c).1 22 = nI (A 2 2 + 1) := by simp [rNs, upd]
  refine ⟨m.aA a0 a1 (k 4 (by decide) (by decide) (by decide) (by decide) (by decide) (by decide)) (k 10 (by decide) (by decide) (by decide) (by decide) (by decide) (by decide)) (k 14 (by decide) (by decide) (by decide) (by decide) (by decide) (by decide)) (k 15 (by decide) (by decide) (by decide) (by decide) (by decide) (by decide)) (z 7 (by decide) (by decide)) (z 9 (by decide) (by decide)) (fun j h1 h2 => u j (by omega) (by omega) (by omega)), ?_, ?_, fun i hi => ?_, fun c' hc' => ?_⟩
  · unfold cN at n ⊢
    rw [k0.1, k0.2.1, k0.2.2.1, k0.2.2.2.1, k0.2.2.2.2.1, k0.2.2.2.2.2, a2, a3, z 0 (by decide) (by decide), z 1 (by decide) (by decide), z 2 (by decide) (by decide), z 21 (by decide) (by decide), z22, z 34 (by decide) (by decide)]
    exact ⟨n.1, ⟨rfl, rfl, n.2.1.2.2⟩, n.2.2⟩
  · unfold cLn at l ⊢
    rw [k 9 (by decide) (by decide) (by decide) (by decide) (by decide) (by decide), z 47 (by decide) (by decide), z 48 (by decide) (by decide)]
    exact l
  · rw [a2] at hi
    by_cases e : i = A 2 2
    · subst e
      obtain ⟨dz1, dz2, dz3, dz4⟩ := hh.2.2.2.2 (A 2 2) (Nat.le_refl _) hS
      have hm : rHm (rNs s (A 2 2) Z a c) (A 2 2) = a / 8 := by unfold rHm; rw [u16, if_pos rfl, nI_clamp (by omega)]
      unfold cS1 cL
      rw [kS.1, kS.2.1, hm, u 17 (by decide) (by decide) (by decide), u 18 (by decide) (by decide) (by decide), u 19 (by decide) (by decide) (by decide), u 20 (by decide) (by decide) (by decide), dz1, dz3, dz4, z 21 (by decide) (by decide)]
      obtain ⟨T, hT1, hT2⟩ := hT
      refine ⟨rfl, by omega, rfl, Or.inl rfl, rfl, fun k hk => (dz2 k hk).symm, 0, by omega, rfl, ⟨fun _ => 0, fun e he => by omega, fun e e' he => by omega, fun k hk => Or.inl ?_, fun e e' he => by omega⟩, T, hT1, hT2, fun e he => by omega⟩
      show v' 11 (8 * A 2 2 + k) 0 = 0
      rw [kS.2.2 k hk]
      rfl
    · refine (sv i (by omega)).cg (k19 i (by omega)).1 (k19 i (by omega)).2 (fun x hx => k11 _ (by omega)) ⟨z 21 (by decide) (by decide), by rw [u16, if_neg e], by rw [u 17 (by decide) (by decide) (by decide)], fun k _ => by rw [u 18 (by decide) (by decide) (by decide)], by rw [u 19 (by decide) (by decide) (by decide)], by rw [u 20 (by decide) (by decide) (by decide)], fun j e' h1 h2 _ => by rw [u j (by omega) (by omega) (by omega)]⟩
  · rw [a3] at hc'
    have := (se c' hc').cg (v' := v') (s' := rNs s (A 2 2) Z a c) (by rw [k 22 (by decide) (by decide) (by decide) (by decide) (by decide) (by decide)]) (fun j h1 h2 => by rw [u j (by omega) (by omega) (by omega)])
    unfold cC1 at this ⊢
    rw [a10 c' hc']
    exact this
section NAM
variable {E : xE} {nx : Nat} {M : xM} {A : cA} {v : cV} {s : rS} {Q : Option Value → xM → Nat → Prop}
set_option maxRecDepth 100000 in
set_option maxHeartbeats 4000000 in
theorem w8 {x : Int32} (h : cW E nx M A v s) (he : nX E M) (hq : ∀ Z, Z ≤ 32 → s.1 4 = nI Z → cP E nx M A (rName s (A 2 1) (A 2 2) Z x).2 (some (.int (rName s (A 2 1) (A 2 2) Z x).1)) Q) : XC E 8 [.ref (A 0 0), .int x] M nx Q := by
  have hS := h.1.1.2.2.2.1
  have hN := h.1.1.2.1
  refine XC.run 60 [] ?_
  simp only [n8, n23, t8, ↓xh, ↓xst, ↓xrunE, ↓rG, rL, rSt, updA, List.elem_nil, List.elem_cons, Nat.reduceBEq, Bool.false_eq_true, if_false, if_true, true_and, and_true, true_or, or_true, not_false_eq_true, Nat.reduceAdd, Nat.reduceSub, Nat.reduceLeDiff, Nat.reduceEqDiff, Nat.reduceLT, ↓reduceIte, List.length_cons, List.length_nil, List.set_cons_zero, List.set_cons_succ, Nat.le_refl, Nat.zero_le, Nat.zero_sub, Nat.sub_zero, List.nil_append, List.cons_append, Option.toList_some, Option.toList_none, eq_self, ↓cFx h.1]
  refine mc23 h (fun M1 v1 g Z hZ e4 h1 js tx nc fr => ?_)
  have hq := hq Z hZ e4
  rw [rName] at hq
  have he1 : nX E M1 := he.mv (fun q hq => fr q (h.lo hq).1 (h.lo hq).2)
  have nz : ∀ q, nx ≤ q → ¬ ccl A q := fun q hq z => by have := nc q z; omega
  have hP : ∀ q, q < xb E ∨ nx + 2 ≤ q → ¬ ccl A q := fun q hq => by
    rcases hq with z | z
    · exact (h.lo z).2
    · exact nz q (by omega)
  have z4 : ∀ f, f ≠ 4 → s.1 f = upd s.1 4 0 f := fun f hf => by simp [upd, hf]
  have rest : ∀ M2 nx2 pv, jG M1 M2 (nx + 2) nx2 → (pv = .null ∧ (rPl s 58 Z 0 = none ∨ ∃ c, rPl s 58 Z 0 = some c ∧ ¬ (rNm s 0 c = true ∧ rNm s (c + 1) Z = true)) ∨ ∃ c pt go gt gz, pv = .ref pt ∧ rPl s 58 Z 0 = some c ∧ rNm s 0 c = true ∧ rNm s (c + 1) Z = true ∧ pPt (fun q => ¬ ccl A q) M2 nx2 pt c go (Z - (c + 1)) gt 1 gz ∧ gz 0 = 42 ∧ tX go s 0 c ∧ tX gt s (c + 1) (Z - (c + 1))) → XZ E 8 (xZ E 8 Q) 8 [some (.ref (A 0 0)), some (.int x), some pv, none] [] M2 nx2 11 59 := by
    intro M2 nx2 pv g2 hpv
    have h2 : cW E nx2 M2 A v1 (upd s.1 4 0, s.2) := h1.jg g2
    have g21 := g2.1
    have fr2 : ∀ q, q < nx → ¬ ccl A q → M2 q = M q := fun q hq hc => (g2.2 q (by omega)).trans (fr q hq hc)
    have he2 : nX E M2 := he1.mv (fun q hq => g2.2 q (by have := (h1.lo hq).1; omega))
    have q2 : cQ A v1 s := h2.2.1.s4 (fun f hf => z4 f hf) (fun _ _ => rfl) (fun _ _ => rfl)
    have nm2 : cNm nx2 M2 A s := h2.2.2.2.2.1
    have hh2 : cH A s := h2.2.2.2.2.2.2.1
    have d2 : cNd A v1 s := h2.2.2.1
    refine XZ.runH 60 [] ?_
    simp only [n8, n37, t8, ↓xh, ↓xst, ↓xrunE, ↓rG, rL, rSt, updA, List.elem_nil, List.elem_cons, Nat.reduceBEq, Bool.false_eq_true, if_false, if_true, true_and, and_true, true_or, or_true, not_false_eq_true, Nat.reduceAdd, Nat.reduceSub, Nat.reduceLeDiff, Nat.reduceEqDiff, Nat.reduceLT, ↓reduceIte, List.length_cons, List.length_nil, List.set_cons_zero, List.set_cons_succ, Nat.le_refl, Nat.zero_le, Nat.zero_sub, Nat.sub_zero, List.nil_append, List.cons_append, Option.toList_some, Option.toList_none, eq_self, ↓cFx h2.1]
    refine mc37 h2.1 q2.1 d2 ?_
    refine XZ.runH 60 [72] ?_
    by_cases c1 : rIsNode s x = true
    rotate_left
    · rw [if_neg c1] at hq ⊢
      simp only [n8, t8, ↓xh, ↓xst, ↓xrunE, ↓rG, rL, rSt, updA, List.elem_nil, List.elem_cons, Nat.reduceBEq, Bool.false_eq_true, if_false, if_true, true_and, and_true, true_or, or_true, not_false_eq_true, Nat.reduceAdd, Nat.reduceSub, Nat.reduceLeDiff, Nat.reduceEqDiff, Nat.reduceLT, ↓reduceIte, List.length_cons, List.length_nil, List.set_cons_zero, List.set_cons_succ, Nat.le_refl, Nat.zero_le, Nat.zero_sub, Nat.sub_zero, List.nil_append, List.cons_append, Option.toList_some, Option.toList_none, eq_self]
      exact hq M2 A v1 nx2 (by omega) rfl h2 fr2 (fun _ _ z => z)
    rw [if_pos c1] at hq ⊢
    obtain ⟨aa, ha, rfl⟩ := rIsNode_v c1
    rw [nI_clamp (show aa < 2 ^ 31 by omega)] at hq
    rcases hpv with ⟨rfl, np⟩ | ⟨c, pt, go, gt, gz, rfl, ec, n1, n2, hp, g42, xo, xt⟩
    · have e2 : rMake s (A 2 1) (A 2 2) Z aa = (-2, s) := by
        unfold rMake
        rcases np with z | ⟨c, z, z2⟩
        · rw [z]
        · rw [z]
          dsimp only
          rw [if_neg z2]
      rw [e2] at hq
      simp only [n8, t8, ↓xh, ↓xst, ↓xrunE, ↓rG, rL, rSt, updA, List.elem_nil, List.elem_cons, Nat.reduceBEq, Bool.false_eq_true, if_false, if_true, true_and, and_true, true_or, or_true, not_false_eq_true, Nat.reduceAdd, Nat.reduceSub, Nat.reduceLeDiff, Nat.reduceEqDiff, Nat.reduceLT, ↓reduceIte, List.length_cons, List.length_nil, List.set_cons_zero, List.set_cons_succ, Nat.le_refl, Nat.zero_le, Nat.zero_sub, Nat.sub_zero, List.nil_append, List.cons_append, Option.toList_some, Option.toList_none, eq_self, show ¬ (1 : Int32) = 0 by decide]
      exact hq M2 A v1 nx2 (by omega) rfl h2 fr2 (fun _ _ z => z)
    have e3 : rMake s (A 2 1) (A 2 2) Z aa = (if rMkL s (A 2 1) Z aa c (A 2 2) 0 = true then (-3, s) else if ¬ A 2 2 < 16 then (-4, s) else (nI (A 2 2), rMkS s (A 2 2) Z aa c)) := by
      unfold rMake
      rw [ec]
      dsimp only
      rw [if_pos ⟨n1, n2⟩]
    rw [e3] at hq
    have cZ := rPl_lt _ _ _ _ _ ec
    have cZ2 := rNm_lt n2
    have mo : rMask s 0 c = true := by unfold rMask; rw [n1]; rfl
    have mt : rMask s (c + 1) Z = true := by unfold rMask; rw [n2]; rfl
    have aN : aa / 8 < A 2 0 := by
      have : ¬ s.2 4 aa = 0 := by
        unfold rIsNode at c1
        simp only [Bool.and_eq_true, decide_eq_true_eq] at c1
        rw [nI_clamp (show aa < 2 ^ 31 by omega)] at c1
        exact c1.2
      exact d2.2.2 aa ha this
    have e8 := nI_div8 aa ha
    simp only [n8, n24, t8, ↓xh, ↓xst, ↓xrunE, ↓rG, rL, rSt, updA, List.elem_nil, List.elem_cons, Nat.reduceBEq, Bool.false_eq_true, if_false, if_true, true_and, and_true, true_or, or_true, not_false_eq_true, Nat.reduceAdd, Nat.reduceSub, Nat.reduceLeDiff, Nat.reduceEqDiff, Nat.reduceLT, ↓reduceIte, List.length_cons, List.length_nil, List.set_cons_zero, List.set_cons_succ, Nat.le_refl, Nat.zero_le, Nat.zero_sub, Nat.sub_zero, List.nil_append, List.cons_append, Option.toList_some, Option.toList_none, eq_self, show ¬ (1 : Int32) = 0 by decide, show ¬ (8 : Int32) = 0 by decide, show ¬ (some pt = none) by simp, ↓cFx h2.1, e8]
    refine mc24 (kr := 3) (p := none) (Z := Z) (c := c) (t := Z) h2.1 he2 q2 nm2 hh2 (Or.inr rfl) aN hp ⟨rfl, g42⟩ (by omega) hZ xo xt mo mt (fun M3 v3 h3 k3 e3 => ?_)
    have fr3 : ∀ q, q < nx → ¬ ccl A q → M3 q = M q := fun q hq hc => (h3.2.2 q hc).trans (fr2 q hq hc)
    have cn : (rSh (rPq s (A 2 1) Z (aa / 8) c Z none) (A 2 2) 16 0 (0, v1 3 0)).1 ≤ 16 := by
      rw [rSh_n _ _ 16 0 _ (by rw [rCn_0])]
      have := rCn_le (rPq s (A 2 1) Z (aa / 8) c Z none) (0 + 16) 0 (A 2 2)
      omega
    have mk := rMk_cnt (s := s) (R := A 2 1) (S := A 2 2) (Z := Z) (A := aa) (c := c) (y := v1 3 0)
    have h3W : cW E nx2 M3 A v3 (upd s.1 4 0, s.2) := h2.step h3 (h2.2.1.fnd (fun _ _ _ => rfl) (fun _ _ _ => rfl) (fun kd h4 _ => k3 kd (by omega) (by omega)) (by rw [k3 0 (by decide) (by decide)]; exact ⟨rfl, rfl, rfl, rfl, rfl, rfl⟩)) (fun kd hk => k3 kd (by omega) (by omega)) (by rw [k3 0 (by decide) (by decide)]) rfl rfl (fun _ _ => rfl) h2.2.2.2.2.2.2.1
    refine XZ.runH 60 [72] ?_
    by_cases c2 : rMkL s (A 2 1) Z aa c (A 2 2) 0 = true
    · rw [if_pos c2] at hq
      have z : ¬ nI (rSh (rPq s (A 2 1) Z (aa / 8) c Z none) (A 2 2) 16 0 (0, v1 3 0)).1 ≤ 0 := nI_ge (a := 0) (mk.mp c2) (by omega)
      simp only [n8, t8, ↓xh, ↓xst, ↓xrunE, ↓rG, rL, rSt, updA, List.elem_nil, List.elem_cons, Nat.reduceBEq, Bool.false_eq_true, if_false, if_true, true_and, and_true, true_or, or_true, not_false_eq_true, Nat.reduceAdd, Nat.reduceSub, Nat.reduceLeDiff, Nat.reduceEqDiff, Nat.reduceLT, ↓reduceIte, List.length_cons, List.length_nil, List.set_cons_zero, List.set_cons_succ, Nat.le_refl, Nat.zero_le, Nat.zero_sub, Nat.sub_zero, List.nil_append, List.cons_append, Option.toList_some, Option.toList_none, eq_self, z]
      exact hq M3 A v3 nx2 (by omega) rfl h3W fr3 (fun _ _ z => z)
    rw [if_neg c2] at hq
    have z0 : nI (rSh (rPq s (A 2 1) Z (aa / 8) c Z none) (A 2 2) 16 0 (0, v1 3 0)).1 ≤ 0 := by
      have : (rSh (rPq s (A 2 1) Z (aa / 8) c Z none) (A 2 2) 16 0 (0, v1 3 0)).1 = 0 := by
        by_cases y : 0 < (rSh (rPq s (A 2 1) Z (aa / 8) c Z none) (A 2 2) 16 0 (0, v1 3 0)).1
        · exact absurd (mk.mpr y) c2
        · omega
      rw [this]
      decide
    have n7 : v3 0 0 7 = nI (A 2 2) := by rw [k3 0 (by decide) (by decide)]; exact q2.2.1.2.1.1
    by_cases c3 : A 2 2 < 16
    rotate_left
    · rw [if_pos c3] at hq
      have z : ¬ nI (A 2 2) < 16 := k2_nlt (nI_le (a := 16) (show 16 ≤ A 2 2 by omega) (by omega))
      simp only [n8, t8, ↓xh, ↓xst, ↓xrunE, ↓rG, rL, rSt, updA, List.elem_nil, List.elem_cons, Nat.reduceBEq, Bool.false_eq_true, if_false, if_true, true_and, and_true, true_or, or_true, not_false_eq_true, Nat.reduceAdd, Nat.reduceSub, Nat.reduceLeDiff, Nat.reduceEqDiff, Nat.reduceLT, ↓reduceIte, List.length_cons, List.length_nil, List.set_cons_zero, List.set_cons_succ, Nat.le_refl, Nat.zero_le, Nat.zero_sub, Nat.sub_zero, List.nil_append, List.cons_append, Option.toList_some, Option.toList_none, eq_self, z0, ↓cFx h3, n7, z]
      exact hq M3 A v3 nx2 (by omega) rfl h3W fr3 (fun _ _ z => z)
    rw [if_neg (fun z => z c3)] at hq
    have z16 : nI (A 2 2) < 16 := (nI_lti (b := 16) (by omega) (by decide)).mpr c3
    have hb2 : xb E ≤ nx2 := h2.2.2.2.2.2.2.2.2
    simp only [n8, t8, ↓xh, ↓xst, ↓xrunE, ↓rG, rL, rSt, updA, List.elem_nil, List.elem_cons, Nat.reduceBEq, Bool.false_eq_true, if_false, if_true, true_and, and_true, true_or, or_true, not_false_eq_true, Nat.reduceAdd, Nat.reduceSub, Nat.reduceLeDiff, Nat.reduceEqDiff, Nat.reduceLT, ↓reduceIte, List.length_cons, List.length_nil, List.set_cons_zero, List.set_cons_succ, Nat.le_refl, Nat.zero_le, Nat.zero_sub, Nat.sub_zero, List.nil_append, List.cons_append, Option.toList_some, Option.toList_none, eq_self, z0, ↓cFx h3, n7, z16, cx9]
    refine XZ.abs2 (P := fun M' => jN M3 M' nx2 (.inl (9, [.int 0, .null, .null, .int 0, .null, .int 0, .null]))) (jN_put M3 nx2 _) (fun M4 j4 => ?_)
    have hp4 : pPt (fun q => ¬ ccl A q) M4 nx2 pt c go (Z - (c + 1)) gt 1 gz := hp.mv (fun q hq hlt => (j4.2 q (by omega)).trans (h3.2.2 q hq)) (Nat.le_refl _)
    obtain ⟨o, op, ty, tp, zo, zp, mp, jo, jt, jz, ⟨p1, p2, p3, p4, p5, p6, p7⟩, ⟨l1, l2, l3, l4, l5, l6, l7⟩⟩ := hp4
    refine XZ.runH 60 [] ?_
    simp only [n8, n60, t8, ↓xh, ↓xst, ↓xrunE, ↓rG, rL, rSt, updA, List.elem_nil, List.elem_cons, Nat.reduceBEq, Bool.false_eq_true, if_false, if_true, true_and, and_true, true_or, or_true, not_false_eq_true, Nat.reduceAdd, Nat.reduceSub, Nat.reduceLeDiff, Nat.reduceEqDiff, Nat.reduceLT, ↓reduceIte, List.length_cons, List.length_nil, List.set_cons_zero, List.set_cons_succ, Nat.le_refl, Nat.zero_le, Nat.zero_sub, Nat.sub_zero, List.nil_append, List.cons_append, Option.toList_some, Option.toList_none, eq_self, ↓cO mp]
    refine mc60 hb2 j4.1 (fun M5 t5 => ?_)
    have fr5 : ∀ q, q < nx2 → M5 q = M3 q := fun q hq => (t5.2.2.2.2 q (by omega)).trans (j4.2 q (by omega))
    have r5 : cR E nx2 M5 M5 A v3 := h3W.1.fr fr5
    have iS := nIx c3
    have b7 : xb E ≤ A 0 0 + 7 := r5.1.lo (kd := 7) (i := 0) ⟨rfl, by decide⟩
    obtain ⟨g1, back⟩ := gr8 (op := op) (tp := tp) r5 hb2 c3 hN t5
    refine XZ.runH 60 [86, 97] ?_
    simp only [n8, t8, ↓xh, ↓xst, ↓xrunE, ↓rG, rL, rSt, updA, List.elem_nil, List.elem_cons, Nat.reduceBEq, Bool.false_eq_true, if_false, if_true, true_and, and_true, true_or, or_true, not_false_eq_true, Nat.reduceAdd, Nat.reduceSub, Nat.reduceLeDiff, Nat.reduceEqDiff, Nat.reduceLT, ↓reduceIte, List.length_cons, List.length_nil, List.set_cons_zero, List.set_cons_succ, Nat.le_refl, Nat.zero_le, Nat.zero_sub, Nat.sub_zero, List.nil_append, List.cons_append, Option.toList_some, Option.toList_none, eq_self, ↓cFx r5, iS, xaR, show xaci 6 = 9 by decide, ↓cO t5.1, b7]
    refine XZ.abs2 (P := fun M' => cR E (nx2 + 11) M' M' (A8 A nx2 o op ty tp) (vSv v3 (A 2 2) (nI (aa / 8))) ∧ ∀ q, q < nx2 → ¬ ccl A q → M' q = M3 q) ⟨g1, fun q hq hc => ?_⟩ (fun M6 r6' => ?_)
    · have nc7 : q ≠ A 0 0 + 7 := fun z => hc ⟨7, 0, ⟨rfl, by decide⟩, z.symm⟩
      rw [xput_ne nc7, fr5 q hq]
    obtain ⟨r6, f6⟩ := r6'
    obtain ⟨b0, b20, b21, b22, b23, b5, b5S, b78, ⟨bo7, bo8, bt7, bt8⟩, bo⟩ := A8_v A nx2 o op ty tp
    have v60 : vSv v3 (A 2 2) (nI (aa / 8)) 0 0 = v3 0 0 := by unfold vSv; simp
    have x6 := cFx r6
    simp only [b0, v60, n7] at x6
    have bb : xb E ≤ A 0 0 := r5.1.lo (kd := 0) (i := 0) ⟨rfl, by decide⟩
    have r7 := r6.pw (a := A 0 0) (c := .inl (0, [.int (v3 0 0 0), .int (v3 0 0 1), .int (v3 0 0 2), .ref (A 0 0 + 1), .ref (A 0 0 + 3), .ref (A 0 0 + 6), .ref (A 0 0 + 7), .int (nI (A 2 2 + 1)), .ref (A 0 0 + 8), .int (v3 0 0 9), .ref (A 0 0 + 9), .int (v3 0 0 11), .ref (A 0 0 + 10), .ref (A 0 0 + 11), .int (v3 0 0 14)])) 0 0 ⟨rfl, by decide⟩ (w [v3 0 0 0, v3 0 0 1, v3 0 0 2, 0, 0, 0, 0, nI (A 2 2 + 1), 0, v3 0 0 9, 0, v3 0 0 11, 0, 0, v3 0 0 14]) b0.symm (by unfold cct; rw [b0]; rfl)
    refine XZ.runH 60 [] ?_
    simp only [n8, t8, ↓xh, ↓xst, ↓xrunE, ↓rG, rL, rSt, updA, List.elem_nil, List.elem_cons, Nat.reduceBEq, Bool.false_eq_true, if_false, if_true, true_and, and_true, true_or, or_true, not_false_eq_true, Nat.reduceAdd, Nat.reduceSub, Nat.reduceLeDiff, Nat.reduceEqDiff, Nat.reduceLT, ↓reduceIte, List.length_cons, List.length_nil, List.set_cons_zero, List.set_cons_succ, Nat.le_refl, Nat.zero_le, Nat.zero_sub, Nat.sub_zero, List.nil_append, List.cons_append, Option.toList_some, Option.toList_none, eq_self, ↓x6, bb, nI_1]
    have nc0 : ∀ q, ¬ ccl A q → q ≠ A 0 0 := fun q hq z => hq ⟨0, 0, ⟨rfl, by decide⟩, z.symm⟩
    have es : ((upd (rMkS s (A 2 2) Z aa c).1 4 0, (rMkS s (A 2 2) Z aa c).2) : rS) = rNs s (A 2 2) Z aa c := rfl
    rw [es] at hq
    obtain ⟨u, u16, uo, ut, un, u3o, u3t, u3n⟩ := rNs_v (s := s) (Z := Z) (a := aa) (c := c) c3 (by omega) hZ
    have zf : ∀ f, f ≠ 4 → f ≠ 22 → (rNs s (A 2 2) Z aa c).1 f = s.1 f := fun f h4 h22 => by simp [rNs, upd, h4, h22]
    have kk : ∀ kd, kd ≠ 0 → kd ≠ 2 → kd ≠ 3 → kd ≠ 11 → kd ≠ 19 → kd ≠ 20 → uv (vSv v3 (A 2 2) (nI (aa / 8))) 0 0 (w [v3 0 0 0, v3 0 0 1, v3 0 0 2, 0, 0, 0, 0, nI (A 2 2 + 1), 0, v3 0 0 9, 0, v3 0 0 11, 0, 0, v3 0 0 14]) kd = v1 kd := fun kd h0 h2 h3 h11 h19 h20 => by
      rw [uv_k h0]
      have : vSv v3 (A 2 2) (nI (aa / 8)) kd = v3 kd := by
        funext i
        unfold vSv
        rw [if_neg (fun z => h11 z.1), if_neg (fun z => h19 z.1), if_neg (fun z => h20 z.1)]
      rw [this, k3 kd h2 h3]
    have k31 : ∀ kd, kd = 11 ∨ kd = 19 ∨ kd = 20 → v3 kd = v1 kd := fun kd hk => k3 kd (by omega) (by omega)
    have v30 : v3 0 = v1 0 := k3 0 (by decide) (by decide)
    have qn := q2.nam (A' := A8 A nx2 o op ty tp) (v' := uv (vSv v3 (A 2 2) (nI (aa / 8))) 0 0 (w [v3 0 0 0, v3 0 0 1, v3 0 0 2, 0, 0, 0, 0, nI (A 2 2 + 1), 0, v3 0 0 9, 0, v3 0 0 11, 0, 0, v3 0 0 14])) (Z := Z) (a := aa) (c := c) hh2 c3 (by omega) hZ ha q2.2.1.2.2.2 b20 b21 b22 b23 (fun c' _ => bo 10 c' (by decide) (by decide) (by decide) (by decide)) kk (fun q hq => by
        rw [uv_k (by decide)]
        unfold vSv
        rw [if_neg (by omega), if_neg (by omega), if_neg (by omega), k31 11 (by omega)]) (fun i hi => by
        rw [uv_k (by decide), uv_k (by decide)]
        unfold vSv
        constructor
        · rw [if_neg (by omega), if_neg (by omega), if_neg (by omega), k31 19 (by omega)]
        · rw [if_neg (by omega), if_neg (by omega), if_neg (by omega), k31 20 (by omega)]) (by
        rw [uv_k (by decide), uv_k (by decide), uv_k (by decide)]
        unfold vSv
        refine ⟨by simp, by simp, fun k hk => ?_⟩
        rw [if_pos ⟨rfl, by omega, by omega⟩]) (by rw [uv_s, v30]; exact ⟨rfl, rfl, rfl, rfl, rfl, rfl⟩)
    have frF : ∀ q, q < nx2 → ¬ ccl A q → xput M6 (A 0 0) (.inl (0, [.int (v3 0 0 0), .int (v3 0 0 1), .int (v3 0 0 2), .ref (A 0 0 + 1), .ref (A 0 0 + 3), .ref (A 0 0 + 6), .ref (A 0 0 + 7), .int (nI (A 2 2 + 1)), .ref (A 0 0 + 8), .int (v3 0 0 9), .ref (A 0 0 + 9), .int (v3 0 0 11), .ref (A 0 0 + 10), .ref (A 0 0 + 11), .int (v3 0 0 14)])) q = M2 q := fun q hq hc => by
      rw [xput_ne (nc0 q hc), f6 q hq hc]
      exact h3.2.2 q hc
    have frG : ∀ q, q < nx2 → ¬ ccl A q → xput M6 (A 0 0) (.inl (0, [.int (v3 0 0 0), .int (v3 0 0 1), .int (v3 0 0 2), .ref (A 0 0 + 1), .ref (A 0 0 + 3), .ref (A 0 0 + 6), .ref (A 0 0 + 7), .int (nI (A 2 2 + 1)), .ref (A 0 0 + 8), .int (v3 0 0 9), .ref (A 0 0 + 9), .int (v3 0 0 11), .ref (A 0 0 + 10), .ref (A 0 0 + 11), .int (v3 0 0 14)])) q = M4 q := fun q hq hc => by
      rw [xput_ne (nc0 q hc), f6 q hq hc]
      exact (j4.2 q (by omega)).symm
    obtain ⟨r, q, d, t', n, f, hh, l, b⟩ := h2
    refine hq _ (A8 A nx2 o op ty tp) _ (nx2 + 11) (by omega) b0 ⟨r7.rf, qn, ?_, ?_, ?_, ?_, ?_, ?_, by omega⟩ (fun q hq hc => (frF q (by omega) hc).trans (fr2 q hq hc)) (fun q hq hc => back q (by omega) hc)
    · have := d2.sm (v' := uv (vSv v3 (A 2 2) (nI (aa / 8))) 0 0 (w [v3 0 0 0, v3 0 0 1, v3 0 0 2, 0, 0, 0, 0, nI (A 2 2 + 1), 0, v3 0 0 9, 0, v3 0 0 11, 0, 0, v3 0 0 14])) (s' := rNs s (A 2 2) Z aa c) (kk 13 (by decide) (by decide) (by decide) (by decide) (by decide) (by decide)) (u 4 (by decide) (by decide) (by decide))
      unfold cNd at this ⊢
      rw [b20]
      exact this
    · have := t'.sm (v' := uv (vSv v3 (A 2 2) (nI (aa / 8))) 0 0 (w [v3 0 0 0, v3 0 0 1, v3 0 0 2, 0, 0, 0, 0, nI (A 2 2 + 1), 0, v3 0 0 9, 0, v3 0 0 11, 0, 0, v3 0 0 14])) (s' := rNs s (A 2 2) Z aa c) (kk 23 (by decide) (by decide) (by decide) (by decide) (by decide) (by decide)) (kk 24 (by decide) (by decide) (by decide) (by decide) (by decide) (by decide)) (by simp [rNs, upd]) (u 1 (by decide) (by decide) (by decide))
      unfold cTx at this ⊢
      rw [bo 1 1 (by decide) (by decide) (by decide) (by decide)]
      exact this
    · intro t1 ht1
      by_cases e1 : t1 = 8 + A 2 2
      · subst e1
        have ln : rLn (rNs s (A 2 2) Z aa c) (8 + A 2 2) = c := by unfold rLn; rw [u3o, nI_clamp (by omega)]
        rw [bo7, bo8, ln]
        refine ⟨go, jo.mv (frG _ l2 p2) (frG _ l3 p3), fun k hk => ?_, fun y => p2 (back _ l2 y), fun y => p3 (back _ l3 y), by omega, by omega⟩
        rw [ln] at hk
        rw [(xo k hk).1, uo k hk, Nat.zero_add]
      · by_cases e2 : t1 = 24 + A 2 2
        · subst e2
          have ln : rLn (rNs s (A 2 2) Z aa c) (24 + A 2 2) = Z - (c + 1) := by unfold rLn; rw [u3t, nI_clamp (by omega)]
          rw [bt7, bt8, ln]
          refine ⟨gt, jt.mv (frG _ l4 p4) (frG _ l5 p5), fun k hk => ?_, fun y => p4 (back _ l4 y), fun y => p5 (back _ l5 y), by omega, by omega⟩
          rw [ln] at hk
          rw [(xt k hk).1, ut k hk]
        · have nl : nlv A t1 := by
            unfold nlv at ht1 ⊢
            rw [b20, b22] at ht1
            omega
          refine nm2.gr (A' := A8 A nx2 o op ty tp) (nx' := nx2 + 11) (s' := rNs s (A 2 2) Z aa c) (by omega) frF back (fun t ht => ?_) (fun t ht k hk => ?_) (fun t ht => ?_) (fun t ht => ?_) t1 nl
          · have y : t ≠ 8 + A 2 2 ∧ t ≠ 24 + A 2 2 := by unfold nlv at ht; omega
            exact ⟨b78 7 t y.1 y.2 (Or.inl rfl), b78 8 t y.1 y.2 (Or.inr rfl)⟩
          · have y : t ≠ 8 + A 2 2 ∧ t ≠ 24 + A 2 2 := by unfold nlv at ht; omega
            exact un t y.1 y.2 k hk
          · have y : t ≠ 8 + A 2 2 ∧ t ≠ 24 + A 2 2 := by unfold nlv at ht; omega
            exact u3n t y.1 y.2
          · refine (l.1 t ?_).1
            unfold nlv at ht
            omega
    · obtain ⟨f1, f2, F, hF, eF'⟩ := f
      refine ⟨?_, ?_, F, hF, ?_⟩
      · rw [uv_s]
        show v3 0 0 11 = _
        rw [v30, zf 33 (by decide) (by decide)]
        exact f1
      · rw [kk 1 (by decide) (by decide) (by decide) (by decide) (by decide) (by decide)]
        exact f2.trans (u 25 (by decide) (by decide) (by decide)).symm
      · rw [zf 33 (by decide) (by decide)]
        exact eF'
    · obtain ⟨hA, hB, hC, hD, hE⟩ := hh2
      unfold cH
      rw [b20, b22, b23]
      refine ⟨fun k hk => by rw [u 7 (by decide) (by decide) (by decide), u 8 (by decide) (by decide) (by decide)]; exact hA k hk, fun i hi => ?_, fun c' hc' => ?_, fun c' y1 y2 j j1 j2 => ?_, fun i y1 y2 => ?_⟩
      · rw [u16]
        by_cases e : i = A 2 2
        · rw [if_pos e]
          exact ⟨aa, ha, rfl, aN⟩
        · rw [if_neg e]
          exact hB i (by omega)
      · rw [u 26 (by decide) (by decide) (by decide), u 27 (by decide) (by decide) (by decide), bo 10 c' (by decide) (by decide) (by decide) (by decide)]
        exact hC c' hc'
      · rw [u j (by omega) (by omega) (by omega)]
        exact hD c' y1 y2 j j1 j2
      · rw [u 17 (by decide) (by decide) (by decide), u 18 (by decide) (by decide) (by decide), u 19 (by decide) (by decide) (by decide), u 20 (by decide) (by decide) (by decide)]
        exact hE i (by omega) y2
    · have l' : rLt s := l
      have k1 := l'.kp (n := 8 + A 2 2) (a := 0) (d := c) (by omega) (by omega)
      have k2 := k1.kp (n := 24 + A 2 2) (a := c + 1) (d := Z - (c + 1)) (by omega) (by omega)
      have eu : ∀ j, j ≠ 16 → (rNs s (A 2 2) Z aa c).2 j = (rKeep (rKeep s (8 + A 2 2) 0 c) (24 + A 2 2) (c + 1) (Z - (c + 1))).2 j := fun j hj => up2_n hj
      exact k2.sm (eu 1 (by decide)) (eu 2 (by decide)) (eu 3 (by decide))
  refine XZ.runH 60 [8] ?_
  simp only [n8, n71, t8, ↓xh, ↓xst, ↓xrunE, ↓rG, rL, rSt, updA, List.elem_nil, List.elem_cons, Nat.reduceBEq, Bool.false_eq_true, if_false, if_true, true_and, and_true, true_or, or_true, not_false_eq_true, Nat.reduceAdd, Nat.reduceSub, Nat.reduceLeDiff, Nat.reduceEqDiff, Nat.reduceLT, ↓reduceIte, List.length_cons, List.length_nil, List.set_cons_zero, List.set_cons_succ, Nat.le_refl, Nat.zero_le, Nat.zero_sub, Nat.sub_zero, List.nil_append, List.cons_append, Option.toList_some, Option.toList_none, eq_self]
  refine mc71 (P := fun q => ¬ ccl A q) (s := s) (by have := h.2.2.2.2.2.2.2.2; omega) he1 hP ⟨by omega, by omega⟩ ⟨nz _ (by omega), nz _ (by omega)⟩ js hZ tx (fun M2 nx2 g2 np => ?_) (fun c M2 nx2 pt go gt gz ec n1 n2 g2 hp g42 xo xt => ?_)
  · refine XZ.runH 60 [8] ?_
    simp only [n8, t8, ↓xh, ↓xst, ↓xrunE, ↓rG, rL, rSt, updA, List.elem_nil, List.elem_cons, Nat.reduceBEq, Bool.false_eq_true, if_false, if_true, true_and, and_true, true_or, or_true, not_false_eq_true, Nat.reduceAdd, Nat.reduceSub, Nat.reduceLeDiff, Nat.reduceEqDiff, Nat.reduceLT, ↓reduceIte, List.length_cons, List.length_nil, List.set_cons_zero, List.set_cons_succ, Nat.le_refl, Nat.zero_le, Nat.zero_sub, Nat.sub_zero, List.nil_append, List.cons_append, Option.toList_some, Option.toList_none, eq_self]
    exact rest M2 nx2 _ g2 (Or.inl ⟨rfl, np⟩)
  · refine XZ.runH 60 [8] ?_
    simp only [n8, t8, ↓xh, ↓xst, ↓xrunE, ↓rG, rL, rSt, updA, List.elem_nil, List.elem_cons, Nat.reduceBEq, Bool.false_eq_true, if_false, if_true, true_and, and_true, true_or, or_true, not_false_eq_true, Nat.reduceAdd, Nat.reduceSub, Nat.reduceLeDiff, Nat.reduceEqDiff, Nat.reduceLT, ↓reduceIte, List.length_cons, List.length_nil, List.set_cons_zero, List.set_cons_succ, Nat.le_refl, Nat.zero_le, Nat.zero_sub, Nat.sub_zero, List.nil_append, List.cons_append, Option.toList_some, Option.toList_none, eq_self]
    exact rest M2 nx2 _ g2 (Or.inr ⟨c, pt, go, gt, gz, rfl, ec, n1, n2, hp, g42, xo, xt⟩)
end NAM
