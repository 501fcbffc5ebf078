/-! network -/
theorem cM.nn {A A' : cA} {v v' : cV} {s s' : rS} (h : cM A v s) (a0 : A' 2 0 = A 2 0 + 1) (a1 : A' 2 1 = A 2 1) (k4 : v' 4 0 1 = nI (A 2 0 + 1) ∧ v' 4 0 3 = v 4 0 3) (k10 : v' 10 = v 10) (k14 : v' 14 = v 14) (k15 : v' 15 = v 15) (e7 : s'.1 7 = nI (A 2 0 + 1)) (e9 : s'.1 9 = s.1 9) (e : ∀ j, 5 ≤ j → j ≤ 11 → s'.2 j = s.2 j) : cM A' v' s' := by
  obtain ⟨m1, m2, m3, m4⟩ := h
  have hh : rHas s' = rHas s := by funext r n; unfold rHas; rw [e 5 (by decide) (by decide)]
  have pc : rPc s' = rPc s := by funext r; unfold rPc; rw [hh]
  unfold cM
  rw [a0, a1]
  refine ⟨⟨k4.1, by rw [k4.2]; exact m1.2.1, e7, by rw [e9]; exact m1.2.2.2⟩, fun r hr => by rw [k14, k15, e 6 (by decide) (by decide), hh, pc]; exact m2 r hr, fun r k hr hk => ?_, m4.N (fun j h1 h2 => e j h1 (by omega))⟩
  rw [k10]
  exact (m3 r k hr hk).sm (fun j h1 h2 => by rw [e j (by omega) (by omega)])
section NEW
variable {E : xE} {nx : Nat} {M : xM} {A : cA} {v : cV} {s : rS} {Q : Option Value → xM → Nat → Prop}
set_option maxRecDepth 100000 in
set_option maxHeartbeats 4000000 in
theorem w33 {zs zp Z : Nat} {g : Nat → Int32} (h : cW E nx M A v s) (hZ : Z ≤ 32) (js : jS M zs zp Z g) (tx : tX g s 0 Z) (lz : zs < nx ∧ zp < nx) (nz : ¬ ccl A zs ∧ ¬ ccl A zp) (q8 : ¬ A 2 0 < 8 → Q (some (.int (-1))) M nx) (hq : A 2 0 < 8 → ∀ M' A' v' nx', nx ≤ nx' → A' 0 0 = A 0 0 → cW E nx' M' A' v' (upd s.1 7 (nI (A 2 0 + 1)), (rKeep s (A 2 0) 0 Z).2) → (∀ q, q < nx → ¬ ccl A q → M' q = M q) → (∀ q, q < nx → ccl A' q → ccl A q) → Q (some (.int (nI (A 2 0)))) M' nx') : XC E 33 [.ref (A 0 0 + 3), .ref zs] M nx Q := by
  have hN := h.1.1.2.1
  have hS := h.1.1.2.2.2.1
  obtain ⟨r, q, d, t, n, f, hh, l, b⟩ := id h
  have n1 := q.1.1.1
  refine XC.run 60 [22] ?_
  by_cases c : A 2 0 < 8
  rotate_left
  · have z : ¬ nI (A 2 0) < 8 := k2_nlt (nI_le (a := 8) (show 8 ≤ A 2 0 by omega) (by omega))
    simp only [n33, t33, ↓xh, ↓xst, ↓xrunE, ↓rG, rL, rSt, updA, List.elem_nil, List.elem_cons, Nat.reduceBEq, Bool.false_eq_true, if_false, if_true, true_and, and_true, true_or, or_true, not_false_eq_true, Nat.reduceAdd, Nat.reduceSub, Nat.reduceLeDiff, Nat.reduceEqDiff, Nat.reduceLT, ↓reduceIte, List.length_cons, List.length_nil, List.set_cons_zero, List.set_cons_succ, Nat.le_refl, Nat.zero_le, Nat.zero_sub, Nat.sub_zero, List.nil_append, List.cons_append, Option.toList_some, Option.toList_none, eq_self, ↓cFx r, n1, z]
    exact q8 c
  have hq := hq c
  have z3 : nI (A 2 0) < 8 := (nI_lti (b := 8) (by omega) (by decide)).mpr c
  simp only [n33, t33, ↓xh, ↓xst, ↓xrunE, ↓rG, rL, rSt, updA, List.elem_nil, List.elem_cons, Nat.reduceBEq, Bool.false_eq_true, if_false, if_true, true_and, and_true, true_or, or_true, not_false_eq_true, Nat.reduceAdd, Nat.reduceSub, Nat.reduceLeDiff, Nat.reduceEqDiff, Nat.reduceLT, ↓reduceIte, List.length_cons, List.length_nil, List.set_cons_zero, List.set_cons_succ, Nat.le_refl, Nat.zero_le, Nat.zero_sub, Nat.sub_zero, List.nil_append, List.cons_append, Option.toList_some, Option.toList_none, eq_self, ↓cFx r, n1, z3, cx5]
  refine XZ.abs2 (P := fun M' => jN M M' nx (.inl (5, [.null, .null]))) (jN_put M nx _) (fun M1 j1 => ?_)
  refine XZ.runH 60 [] ?_
  simp only [n33, n57, t33, ↓xh, ↓xst, ↓xrunE, ↓rG, rL, rSt, updA, List.elem_nil, List.elem_cons, Nat.reduceBEq, Bool.false_eq_true, if_false, if_true, true_and, and_true, true_or, or_true, not_false_eq_true, Nat.reduceAdd, Nat.reduceSub, Nat.reduceLeDiff, Nat.reduceEqDiff, Nat.reduceLT, ↓reduceIte, List.length_cons, List.length_nil, List.set_cons_zero, List.set_cons_succ, Nat.le_refl, Nat.zero_le, Nat.zero_sub, Nat.sub_zero, List.nil_append, List.cons_append, Option.toList_some, Option.toList_none, eq_self]
  refine mc57 b (by omega) j1.1 (fun M2 p0 p1 f2 => ?_)
  have fr2 : ∀ q, q < nx → M2 q = M q := fun q hq => (f2 q (by omega) (by omega)).trans (j1.2 q (by omega))
  have r2 := r.fr (M' := M2) fr2
  have iN := nIx c
  have b4 : xb E ≤ A 0 0 + 4 := r.1.lo (kd := 5) (i := 0) ⟨rfl, by decide⟩
  obtain ⟨g1, back⟩ := gr33 (zp := zp) r2 b c p0 p1
  refine XZ.runH 60 [28, 39] ?_
  simp only [n33, t33, ↓xh, ↓xst, ↓xrunE, ↓rG, rL, rSt, updA, List.elem_nil, List.elem_cons, Nat.reduceBEq, Bool.false_eq_true, if_false, if_true, true_and, and_true, true_or, or_true, not_false_eq_true, Nat.reduceAdd, Nat.reduceSub, Nat.reduceLeDiff, Nat.reduceEqDiff, Nat.reduceLT, ↓reduceIte, List.length_cons, List.length_nil, List.set_cons_zero, List.set_cons_succ, Nat.le_refl, Nat.zero_le, Nat.zero_sub, Nat.sub_zero, List.nil_append, List.cons_append, Option.toList_some, Option.toList_none, eq_self, ↓cFx r2, iN, xaR, show xaci 4 = 5 by decide, ↓cO p0, b4]
  refine XZ.abs2 (P := fun M' => cR E (nx + 2) M' M' (A33 A nx zs zp) (uv v 13 (A 2 0) zE) ∧ ∀ q, q < nx → ¬ ccl A q → M' q = M q) ⟨g1, fun q hq hc => ?_⟩ (fun M3 r3' => ?_)
  · have nc : q ≠ A 0 0 + 4 := fun z => hc ⟨5, 0, ⟨rfl, by decide⟩, z.symm⟩
    rw [xput_ne nc, fr2 q hq]
  obtain ⟨r3, f3⟩ := r3'
  obtain ⟨b0, b20, b21, b22, b23, bi, b3N, b7N, b8N, bo⟩ := A33_v A nx zs zp
  have x3 := cFx r3
  simp only [b0, uv_k (show (4 : Nat) ≠ 13 by decide), n1] at x3
  have b3 : xb E ≤ A 0 0 + 3 := r.1.lo (kd := 4) (i := 0) ⟨rfl, by decide⟩
  have r5 := r3.pw (a := A 0 0 + 3) (c := .inl (2, [.ref (A 0 0 + 4), .int (nI (A 2 0 + 1)), .ref (A 0 0 + 5), .int (v 4 0 3)])) 4 0 ⟨rfl, by decide⟩ (w [0, nI (A 2 0 + 1), 0, v 4 0 3]) (by show _ = A33 A nx zs zp 0 0 + 3; rw [b0]) (by unfold cct; rw [b0]; rfl)
  refine XZ.runH 60 [] ?_
  simp only [n33, t33, ↓xh, ↓xst, ↓xrunE, ↓rG, rL, rSt, updA, List.elem_nil, List.elem_cons, Nat.reduceBEq, Bool.false_eq_true, if_false, if_true, true_and, and_true, true_or, or_true, not_false_eq_true, Nat.reduceAdd, Nat.reduceSub, Nat.reduceLeDiff, Nat.reduceEqDiff, Nat.reduceLT, ↓reduceIte, List.length_cons, List.length_nil, List.set_cons_zero, List.set_cons_succ, Nat.le_refl, Nat.zero_le, Nat.zero_sub, Nat.sub_zero, List.nil_append, List.cons_append, Option.toList_some, Option.toList_none, eq_self, ↓x3, b3, nI_1]
  have ac : ∀ q, ¬ ccl A q → q ≠ A 0 0 + 3 := fun q hq z => hq ⟨4, 0, ⟨rfl, by decide⟩, z.symm⟩
  have kk : ∀ kd, kd ≠ 4 → kd ≠ 13 → uv (uv v 13 (A 2 0) zE) 4 0 (w [0, nI (A 2 0 + 1), 0, v 4 0 3]) kd = v kd := fun kd h4 h13 => by rw [uv_k h4, uv_k h13]
  have z : ∀ f, f ≠ 7 → upd s.1 7 (nI (A 2 0 + 1)) f = s.1 f := fun f hf => by simp [upd, hf]
  have ar : ∀ j, j ≠ 2 → j ≠ 3 → (rKeep s (A 2 0) 0 Z).2 j = s.2 j := fun j h2 h3 => rKeep_2 s _ _ _ h2 h3
  have back' : ∀ q, q < nx → ccl (A33 A nx zs zp) q → ccl A q := fun q hq hc => by
    rcases back q hc with y | y | y
    · exact y
    · omega
    · omega
  refine hq _ (A33 A nx zs zp) _ (nx + 2) (by omega) b0 ⟨r5.rf, ?_, ?_, ?_, ?_, ?_, ?_, ?_, by omega⟩ (fun q hq hc => ?_) back'
  · exact q.mA (s' := (upd s.1 7 (nI (A 2 0 + 1)), (rKeep s (A 2 0) 0 Z).2)) (q.1.nn b20 b21 (by rw [uv_s]; exact ⟨rfl, rfl⟩) (kk 10 (by decide) (by decide)) (kk 14 (by decide) (by decide)) (kk 15 (by decide) (by decide)) (by simp [upd]) (z 9 (by decide)) (fun j h1 h2 => ar j (by omega) (by omega))) b22 b23 (fun c _ => bo 10 c (by decide) (by decide) (by decide) (by decide)) (fun f _ h7 _ => z f h7) (fun j hj => ar j (by omega) (by omega)) (fun kd hk => kk kd (by omega) (by omega))
  · obtain ⟨d1, d2, d3⟩ := d
    unfold cNd
    rw [b20]
    dsimp only
    rw [ar 4 (by decide) (by decide)]
    refine ⟨fun n' k' hn' hk' => ?_, d2, fun i hi y => ?_⟩
    · rw [uv_k (by decide)]
      by_cases e : n' = A 2 0
      · subst e
        rw [uv_s]
        by_cases y : s.2 4 (8 * A 2 0 + k') = 0
        · rw [y]; rfl
        · have := d3 (8 * A 2 0 + k') (by omega) y
          omega
      · rw [uv_n (fun y => e y.2)]
        exact d1 n' k' (by omega) hk'
    · have := d3 i hi y
      omega
  · have := t.sm (v' := uv (uv v 13 (A 2 0) zE) 4 0 (w [0, nI (A 2 0 + 1), 0, v 4 0 3])) (s' := (upd s.1 7 (nI (A 2 0 + 1)), (rKeep s (A 2 0) 0 Z).2)) (kk 23 (by decide) (by decide)) (kk 24 (by decide) (by decide)) (z 4 (by decide)) (ar 1 (by decide) (by decide))
    unfold cTx at this ⊢
    rw [bo 1 1 (by decide) (by decide) (by decide) (by decide)]
    exact this
  · intro t' ht'
    have fr5 : ∀ q, q < nx → ¬ ccl A q → xput M3 (A 0 0 + 3) (.inl (2, [.ref (A 0 0 + 4), .int (nI (A 2 0 + 1)), .ref (A 0 0 + 5), .int (v 4 0 3)])) q = M q := fun q hq hc => by
      rw [xput_ne (ac q hc)]
      exact f3 q hq hc
    by_cases e : t' = A 2 0
    · subst e
      have ln : rLn ((upd s.1 7 (nI (A 2 0 + 1)), (rKeep s (A 2 0) 0 Z).2) : rS) (A 2 0) = Z := by
        unfold rLn
        dsimp only
        rw [rKeep_ln, if_pos rfl, nI_clamp (by omega)]
      rw [b7N, b8N, ln]
      refine ⟨g, js.mv (fr5 _ lz.1 nz.1) (fr5 _ lz.2 nz.2), fun k hk => ?_, fun y => nz.1 (back' _ lz.1 y), fun y => nz.2 (back' _ lz.2 y), by omega, by omega⟩
      rw [ln] at hk
      rw [(tx k hk).1]
      dsimp only
      rw [rKeep_in hk]
    · have nl : nlv A t' := by
        unfold nlv at ht' ⊢
        rw [b20, b22] at ht'
        omega
      refine n.gr (A' := A33 A nx zs zp) (nx' := nx + 2) (s' := (upd s.1 7 (nI (A 2 0 + 1)), (rKeep s (A 2 0) 0 Z).2)) (by omega) fr5 back' (fun t ht => ?_) (fun t ht k hk => ?_) (fun t ht => ?_) (fun t ht => ?_) t' nl
      · have : t ≠ A 2 0 := by unfold nlv at ht; omega
        exact ⟨bi 7 t this (by decide), bi 8 t this (by decide)⟩
      · have : t ≠ A 2 0 := by unfold nlv at ht; omega
        exact rKeep_out (by omega)
      · have : t ≠ A 2 0 := by unfold nlv at ht; omega
        exact rKeep_3 this
      · refine (l.1 t ?_).1
        unfold nlv at ht
        omega
  · obtain ⟨f1, f2, F, hF, eF'⟩ := f
    refine ⟨?_, ?_, F, hF, ?_⟩
    · rw [kk 0 (by decide) (by decide)]; exact f1
    · rw [kk 1 (by decide) (by decide)]; exact f2.trans (ar 25 (by decide) (by decide)).symm
    · exact eF'
  · exact (hh.s5 (s' := (upd s.1 7 (nI (A 2 0 + 1)), (rKeep s (A 2 0) 0 Z).2)) (fun j hj => ar j (by omega) (by omega))).A (by omega) b22 b23 (fun c _ => bo 10 c (by decide) (by decide) (by decide) (by decide))
  · exact l.kp (by omega) (by omega)
  · rw [xput_ne (ac q hc)]
    exact f3 q hq hc
set_option maxRecDepth 100000 in
set_option maxHeartbeats 4000000 in
theorem w4 (h : cW E nx M A v s) (he : nX E M) (hq : ∀ Z, Z ≤ 32 → s.1 4 = nI Z → cP E nx M A (rNet s (A 2 0) Z).2 (some (.int (rNet s (A 2 0) Z).1)) Q) : XC E 4 [.ref (A 0 0)] M nx Q := by
  have hN := h.1.1.2.1
  refine XC.run 60 [] ?_
  simp only [n4, n23, t4, ↓xh, ↓xst, ↓xrunE, ↓rG, rL, rSt, updA, List.elem_nil, List.elem_cons, Nat.reduceBEq, Bool.false_eq_true, if_false, if_true, true_and, and_true, true_or, or_true, not_false_eq_true, Nat.reduceAdd, Nat.reduceSub, Nat.reduceLeDiff, Nat.reduceEqDiff, Nat.reduceLT, ↓reduceIte, List.length_cons, List.length_nil, List.set_cons_zero, List.set_cons_succ, Nat.le_refl, Nat.zero_le, Nat.zero_sub, Nat.sub_zero, List.nil_append, List.cons_append, Option.toList_some, Option.toList_none, eq_self, ↓cFx h.1]
  refine mc23 h (fun M1 v1 g Z hZ e4 h1 js tx nc fr => ?_)
  have hq := hq Z hZ e4
  rw [rNet] at hq
  have he1 : nX E M1 := he.mv (fun q hq => fr q (h.lo hq).1 (h.lo hq).2)
  have nm : nNm g Z = rNm s 0 Z := by have := tNm tx; rw [Nat.zero_add] at this; exact this
  refine XZ.runH 60 [] ?_
  simp only [n4, n74, t4, ↓xh, ↓xst, ↓xrunE, ↓rG, rL, rSt, updA, List.elem_nil, List.elem_cons, Nat.reduceBEq, Bool.false_eq_true, if_false, if_true, true_and, and_true, true_or, or_true, not_false_eq_true, Nat.reduceAdd, Nat.reduceSub, Nat.reduceLeDiff, Nat.reduceEqDiff, Nat.reduceLT, ↓reduceIte, List.length_cons, List.length_nil, List.set_cons_zero, List.set_cons_succ, Nat.le_refl, Nat.zero_le, Nat.zero_sub, Nat.sub_zero, List.nil_append, List.cons_append, Option.toList_some, Option.toList_none, eq_self]
  refine nc74 he1.e js ?_
  rw [nm]
  refine XZ.runH 60 [] ?_
  have skip : cW E (nx + 2) M1 A v1 (upd s.1 4 0, s.2) := h1
  by_cases c : rNm s 0 Z = true
  rotate_left
  · rw [if_neg (fun z => c z.1)] at hq
    rw [if_neg c]
    simp only [n4, t4, ↓xh, ↓xst, ↓xrunE, ↓rG, rL, rSt, updA, List.elem_nil, List.elem_cons, Nat.reduceBEq, Bool.false_eq_true, if_false, if_true, true_and, and_true, true_or, or_true, not_false_eq_true, Nat.reduceAdd, Nat.reduceSub, Nat.reduceLeDiff, Nat.reduceEqDiff, Nat.reduceLT, ↓reduceIte, List.length_cons, List.length_nil, List.set_cons_zero, List.set_cons_succ, Nat.le_refl, Nat.zero_le, Nat.zero_sub, Nat.sub_zero, List.nil_append, List.cons_append, Option.toList_some, Option.toList_none, eq_self]
    exact hq M1 A v1 (nx + 2) (by omega) rfl skip fr (fun _ _ z => z)
  rw [if_pos c]
  simp only [n4, n33, t4, ↓xh, ↓xst, ↓xrunE, ↓rG, rL, rSt, updA, List.elem_nil, List.elem_cons, Nat.reduceBEq, Bool.false_eq_true, if_false, if_true, true_and, and_true, true_or, or_true, not_false_eq_true, Nat.reduceAdd, Nat.reduceSub, Nat.reduceLeDiff, Nat.reduceEqDiff, Nat.reduceLT, ↓reduceIte, List.length_cons, List.length_nil, List.set_cons_zero, List.set_cons_succ, Nat.le_refl, Nat.zero_le, Nat.zero_sub, Nat.sub_zero, List.nil_append, List.cons_append, Option.toList_some, Option.toList_none, eq_self, show ¬ (1 : Int32) = 0 by decide, ↓cFx h1.1]
  have nz : ∀ q, nx ≤ q → ¬ ccl A q := fun q hq z => by have := nc q z; omega
  refine w33 h1 hZ js (fun k hk => tx k hk) ⟨by omega, by omega⟩ ⟨nz _ (by omega), nz _ (by omega)⟩ (fun z => ?_) (fun z M2 A2 v2 nx2 hn a0 h2 f2 back => ?_)
  · rw [if_neg (fun y => z y.2)] at hq
    refine XZ.runH 20 [] ?_
    simp only [n4, t4, ↓xh, ↓xst, ↓xrunE, ↓rG, rL, rSt, updA, List.elem_nil, List.elem_cons, Nat.reduceBEq, Bool.false_eq_true, if_false, if_true, true_and, and_true, true_or, or_true, not_false_eq_true, Nat.reduceAdd, Nat.reduceSub, Nat.reduceLeDiff, Nat.reduceEqDiff, Nat.reduceLT, ↓reduceIte, List.length_cons, List.length_nil, List.set_cons_zero, List.set_cons_succ, Nat.le_refl, Nat.zero_le, Nat.zero_sub, Nat.sub_zero, List.nil_append, List.cons_append, Option.toList_some, Option.toList_none, eq_self]
    exact hq M1 A v1 (nx + 2) (by omega) rfl skip fr (fun _ _ z => z)
  · rw [if_pos ⟨c, z⟩] at hq
    refine XZ.runH 20 [] ?_
    simp only [n4, t4, ↓xh, ↓xst, ↓xrunE, ↓rG, rL, rSt, updA, List.elem_nil, List.elem_cons, Nat.reduceBEq, Bool.false_eq_true, if_false, if_true, true_and, and_true, true_or, or_true, not_false_eq_true, Nat.reduceAdd, Nat.reduceSub, Nat.reduceLeDiff, Nat.reduceEqDiff, Nat.reduceLT, ↓reduceIte, List.length_cons, List.length_nil, List.set_cons_zero, List.set_cons_succ, Nat.le_refl, Nat.zero_le, Nat.zero_sub, Nat.sub_zero, List.nil_append, List.cons_append, Option.toList_some, Option.toList_none, eq_self]
    refine hq M2 A2 v2 nx2 (by omega) a0 ?_ (fun q hq hc => (f2 q (by omega) hc).trans (fr q hq hc)) (fun q hq hc => back q (by omega) hc)
    have e : upd (upd s.1 7 (nI (A 2 0 + 1))) 4 0 = upd (upd s.1 4 0) 7 (nI (A 2 0 + 1)) := by
      funext f
      unfold upd
      by_cases y : f = 4
      · subst y; simp
      · simp [y]
    dsimp only
    rw [e]
    exact h2
end NEW
