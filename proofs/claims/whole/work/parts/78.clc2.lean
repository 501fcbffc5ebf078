/-! write -/
theorem wr_sm : ∀ n, n < 128 → ¬ nI n < 65 → ¬ 90 < nI n → ((nI n - 65 + 97).toUInt32 % 65536).toInt32 = nI n + 32 := by decide +kernel
section WRI
variable {E : xE} {nx : Nat} {M : xM} {A : cA} {v : cV} {s : rS} {Q : Option Value → xM → Nat → Prop}
set_option maxRecDepth 100000 in
set_option maxHeartbeats 4000000 in
theorem w3 {x : Int32} (h : cW E nx M A v s) (hq : ∀ Z, Z ≤ 32 → s.1 4 = nI Z → cP E nx M A (rWrite s Z x).2 (some (.int (rWrite s Z x).1)) Q) : XC E 3 [.ref (A 0 0), .int x] M nx Q := by
  obtain ⟨Z, hZ, e4, jt, hl⟩ := h.jt
  have hq := hq Z hZ e4
  obtain ⟨r, q, d, t, n, f, hh, l, b⟩ := id h
  have l23 : clv A 23 0 := ⟨rfl, by decide⟩
  have l24 : clv A 24 0 := ⟨rfl, by decide⟩
  have b1 : A 0 0 + 1 < nx := r.1.hi l23
  have b1' : xb E ≤ A 0 0 + 1 := r.1.lo l23
  have b2 : A 1 0 < nx := r.1.hi l24
  have b2' : xb E ≤ A 1 0 := r.1.lo l24
  have o23 : ∀ P, xobj M (A 0 0 + 1) 1 P = P [.ref (A 1 0), .int 0, .int (v 23 0 2), .int (v 23 0 3)] := cO (r.2.1 23 0 l23)
  rw [rWrite] at hq
  refine XC.run 60 [] ?_
  by_cases c1 : x < 32
  · rw [if_pos (Or.inl c1)] at hq
    simp only [n3, t3, ↓xh, ↓xst, ↓xrunE, ↓rG, rL, rSt, updA, List.elem_nil, List.elem_cons, Nat.reduceBEq, Bool.false_eq_true, if_false, if_true, true_and, and_true, true_or, or_true, not_false_eq_true, Nat.reduceAdd, Nat.reduceSub, Nat.reduceLeDiff, Nat.reduceEqDiff, Nat.reduceLT, ↓reduceIte, List.length_cons, List.length_nil, List.set_cons_zero, List.set_cons_succ, Nat.le_refl, Nat.zero_le, Nat.zero_sub, Nat.sub_zero, List.nil_append, List.cons_append, Option.toList_some, Option.toList_none, eq_self, lT c1]
    exact hq.z h
  by_cases c2 : 126 < x
  · rw [if_pos (Or.inr (Or.inl c2))] at hq
    simp only [n3, t3, ↓xh, ↓xst, ↓xrunE, ↓rG, rL, rSt, updA, List.elem_nil, List.elem_cons, Nat.reduceBEq, Bool.false_eq_true, if_false, if_true, true_and, and_true, true_or, or_true, not_false_eq_true, Nat.reduceAdd, Nat.reduceSub, Nat.reduceLeDiff, Nat.reduceEqDiff, Nat.reduceLT, ↓reduceIte, List.length_cons, List.length_nil, List.set_cons_zero, List.set_cons_succ, Nat.le_refl, Nat.zero_le, Nat.zero_sub, Nat.sub_zero, List.nil_append, List.cons_append, Option.toList_some, Option.toList_none, eq_self, lF c1, lT c2]
    exact hq.z h
  simp only [n3, n158, t3, ↓xh, ↓xst, ↓xrunE, ↓rG, rL, rSt, updA, List.elem_nil, List.elem_cons, Nat.reduceBEq, Bool.false_eq_true, if_false, if_true, true_and, and_true, true_or, or_true, not_false_eq_true, Nat.reduceAdd, Nat.reduceSub, Nat.reduceLeDiff, Nat.reduceEqDiff, Nat.reduceLT, ↓reduceIte, List.length_cons, List.length_nil, List.set_cons_zero, List.set_cons_succ, Nat.le_refl, Nat.zero_le, Nat.zero_sub, Nat.sub_zero, List.nil_append, List.cons_append, Option.toList_some, Option.toList_none, eq_self, lF c1, lF c2, ↓cFx r, ↓o23]
  refine jc158 jt ?_
  refine XZ.runH 60 [] ?_
  by_cases c3 : Z < 32
  rotate_left
  · rw [if_pos (Or.inr (Or.inr c3))] at hq
    have z : ¬ nI Z < 32 := k2_nlt (nI_le (a := 32) (show 32 ≤ Z by omega) (by omega))
    simp only [n3, t3, ↓xh, ↓xst, ↓xrunE, ↓rG, rL, rSt, updA, List.elem_nil, List.elem_cons, Nat.reduceBEq, Bool.false_eq_true, if_false, if_true, true_and, and_true, true_or, or_true, not_false_eq_true, Nat.reduceAdd, Nat.reduceSub, Nat.reduceLeDiff, Nat.reduceEqDiff, Nat.reduceLT, ↓reduceIte, List.length_cons, List.length_nil, List.set_cons_zero, List.set_cons_succ, Nat.le_refl, Nat.zero_le, Nat.zero_sub, Nat.sub_zero, List.nil_append, List.cons_append, Option.toList_some, Option.toList_none, eq_self, z]
    exact hq.z h
  rw [if_neg (by rintro (z | z | z); exact c1 z; exact c2 z; exact z c3)] at hq
  have z3 : nI Z < 32 := (nI_lti (b := 32) (by omega) (by decide)).mpr c3
  obtain ⟨m, hm, rfl⟩ := ivC c1 c2
  have fin : XC E 159 [.ref (A 0 0 + 1), .int (rSm (nI m))] M nx (fun v' M' nx' => XZ E 3 (xZ E 3 Q) 57 [some (.ref (A 0 0)), some (.int (nI m))] (v'.toList ++ []) M' nx' 0 0) := by
    refine jc159 b b1' b1 b2' b2 jt c3 (rCh_s ⟨m, hm, rfl⟩) (fun M' p' cap' g nx' j' g1 g2 hp hn1 hn2 hp' f' => ?_)
    obtain ⟨⟨ml, hml, ho⟩, h24, hcap, hle, hch⟩ := j'
    obtain ⟨r', back, fr⟩ := gr3 r hn1 b hp hp' ho h24 f'
    refine XZ.runH 60 [] ?_
    simp only [n3, t3, ↓xh, ↓xst, ↓xrunE, ↓rG, rL, rSt, updA, List.elem_nil, List.elem_cons, Nat.reduceBEq, Bool.false_eq_true, if_false, if_true, true_and, and_true, true_or, or_true, not_false_eq_true, Nat.reduceAdd, Nat.reduceSub, Nat.reduceLeDiff, Nat.reduceEqDiff, Nat.reduceLT, ↓reduceIte, List.length_cons, List.length_nil, List.set_cons_zero, List.set_cons_succ, Nat.le_refl, Nat.zero_le, Nat.zero_sub, Nat.sub_zero, List.nil_append, List.cons_append, Option.toList_some, Option.toList_none, eq_self]
    obtain ⟨e0, e1, bo⟩ := A3_v A p' cap'
    have z : ∀ f, f ≠ 4 → upd s.1 4 (nI (Z + 1)) f = s.1 f := fun f hf => by simp [upd, hf]
    have u : ∀ j, j ≠ 1 → up2 s.2 1 Z (nI m) j = s.2 j := fun j hj => up2_n hj
    have kk : ∀ kd, kd < 23 → uv (uv v 23 0 (w [0, 0, ml, nI (Z + 1)])) 24 0 g kd = v kd := fun kd hk => by rw [uv_k (by omega), uv_k (by omega)]
    refine hq M' (A3 A p' cap') _ nx' hn1 (bo 0 0 (by decide)) ⟨r', ?_, ?_, ?_, ?_, ?_, ?_, ?_, by omega⟩ fr back
    · exact q.mA (s' := (upd s.1 4 (nI (Z + 1)), up2 s.2 1 Z (nI m))) (q.1.aA (bo 2 0 (by decide)) (bo 2 1 (by decide)) (kk 4 (by decide)) (kk 10 (by decide)) (kk 14 (by decide)) (kk 15 (by decide)) (z 7 (by decide)) (z 9 (by decide)) (fun j h1 _ => u j (by omega))) (bo 2 2 (by decide)) (bo 2 3 (by decide)) (fun c _ => bo 10 c (by decide)) (fun f h4 _ _ => z f h4) (fun j hj => u j (by omega)) (fun kd hk => kk kd (by omega))
    · have := d.sm (v' := uv (uv v 23 0 (w [0, 0, ml, nI (Z + 1)])) 24 0 g) (s' := (upd s.1 4 (nI (Z + 1)), up2 s.2 1 Z (nI m))) (kk 13 (by decide)) (u 4 (by decide))
      unfold cNd at this ⊢
      rw [bo 2 0 (by decide)]
      exact this
    · refine ⟨Z + 1, by omega, by simp [upd], by rw [uv_k (by decide), uv_s]; rfl, by rw [uv_k (by decide), uv_s]; exact hml, by rw [e1]; exact hcap, by rw [e1]; exact hle, fun k hk => ?_, fun k hk => ?_⟩
      · rw [e1] at hk
        rw [uv_s]
        exact hch k hk
      · rw [uv_s]
        dsimp only
        rw [up2_s]
        by_cases y : k = Z
        · rw [if_pos y, y]; exact g2
        · rw [if_neg y, g1 k (by omega)]; exact hl k (by omega)
    · intro t' ht'
      have nl : nlv A t' := by unfold nlv at ht' ⊢; rw [bo 2 0 (by decide), bo 2 2 (by decide)] at ht'; exact ht'
      refine n.gr (A' := A3 A p' cap') (nx' := nx') (s' := (upd s.1 4 (nI (Z + 1)), up2 s.2 1 Z (nI m))) hn1 fr back (fun t _ => ⟨bo 7 t (by decide), bo 8 t (by decide)⟩) (fun t _ k _ => congrFun (u 2 (by decide)) _) (fun t _ => congrFun (u 3 (by decide)) _) (fun t ht => ?_) t' nl
      refine (l.1 t ?_).1
      have := h.1.1.2.2.2.1
      have := h.1.1.2.1
      unfold nlv at ht
      omega
    · obtain ⟨f1, f2, F, hF, eF'⟩ := f
      refine ⟨?_, ?_, F, hF, ?_⟩
      · rw [kk 0 (by decide)]; exact f1
      · rw [kk 1 (by decide)]; exact f2.trans (u 25 (by decide)).symm
      · exact eF'
    · exact (hh.s5 (s' := (upd s.1 4 (nI (Z + 1)), up2 s.2 1 Z (nI m))) (fun j hj => u j (by omega))).A (by rw [bo 2 0 (by decide)]; exact Nat.le_refl _) (bo 2 2 (by decide)) (bo 2 3 (by decide)) (fun c _ => bo 10 c (by decide))
    · obtain ⟨l1, l2, l3⟩ := l
      unfold rLt rLn
      dsimp only
      rw [u 2 (by decide), u 3 (by decide)]
      refine ⟨l1, l2, fun k hk => ?_⟩
      rw [up2_s]
      split
      · exact ⟨m, hm, rfl⟩
      · exact l3 k hk
  by_cases d1 : nI m < 65
  · have e : rSm (nI m) = nI m := by unfold rSm; rw [if_pos d1]
    rw [e] at fin
    simp only [n3, n159, t3, ↓xh, ↓xst, ↓xrunE, ↓rG, rL, rSt, updA, List.elem_nil, List.elem_cons, Nat.reduceBEq, Bool.false_eq_true, if_false, if_true, true_and, and_true, true_or, or_true, not_false_eq_true, Nat.reduceAdd, Nat.reduceSub, Nat.reduceLeDiff, Nat.reduceEqDiff, Nat.reduceLT, ↓reduceIte, List.length_cons, List.length_nil, List.set_cons_zero, List.set_cons_succ, Nat.le_refl, Nat.zero_le, Nat.zero_sub, Nat.sub_zero, List.nil_append, List.cons_append, Option.toList_some, Option.toList_none, eq_self, z3, ↓cFx r, lT d1, ↓o23]
    exact fin
  by_cases d2 : 90 < nI m
  · have e : rSm (nI m) = nI m := by unfold rSm; rw [if_neg d1, if_pos d2]
    rw [e] at fin
    simp only [n3, n159, t3, ↓xh, ↓xst, ↓xrunE, ↓rG, rL, rSt, updA, List.elem_nil, List.elem_cons, Nat.reduceBEq, Bool.false_eq_true, if_false, if_true, true_and, and_true, true_or, or_true, not_false_eq_true, Nat.reduceAdd, Nat.reduceSub, Nat.reduceLeDiff, Nat.reduceEqDiff, Nat.reduceLT, ↓reduceIte, List.length_cons, List.length_nil, List.set_cons_zero, List.set_cons_succ, Nat.le_refl, Nat.zero_le, Nat.zero_sub, Nat.sub_zero, List.nil_append, List.cons_append, Option.toList_some, Option.toList_none, eq_self, z3, ↓cFx r, lF d1, lT d2, ↓o23]
    exact fin
  · have e : rSm (nI m) = nI m + 32 := by unfold rSm; rw [if_neg d1, if_neg d2]
    rw [e] at fin
    simp only [n3, n159, t3, ↓xh, ↓xst, ↓xrunE, ↓rG, rL, rSt, updA, List.elem_nil, List.elem_cons, Nat.reduceBEq, Bool.false_eq_true, if_false, if_true, true_and, and_true, true_or, or_true, not_false_eq_true, Nat.reduceAdd, Nat.reduceSub, Nat.reduceLeDiff, Nat.reduceEqDiff, Nat.reduceLT, ↓reduceIte, List.length_cons, List.length_nil, List.set_cons_zero, List.set_cons_succ, Nat.le_refl, Nat.zero_le, Nat.zero_sub, Nat.sub_zero, List.nil_append, List.cons_append, Option.toList_some, Option.toList_none, eq_self, z3, ↓cFx r, lF d1, lF d2, ↓o23, wr_sm m hm d1 d2]
    exact fin
end WRI
