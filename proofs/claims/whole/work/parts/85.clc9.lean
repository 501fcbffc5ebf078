/-! lookup -/
theorem cW.jg {E : xE} {nx nx' : Nat} {M M' : xM} {A : cA} {v : cV} {s : rS} (h : cW E nx M A v s) (g : jG M M' nx nx') : cW E nx' M' A v s := by
  obtain ⟨r, q, d, t, n, f, hh, l, b⟩ := h
  have g1 := g.1
  refine ⟨(r.fr g.2).up g.1, q, d, t, fun t' ht' => ?_, f, hh, l, by omega⟩
  obtain ⟨g', j', w', n1, n2, l1, l2⟩ := n t' ht'
  exact ⟨g', j'.mv (g.2 _ l1) (g.2 _ l2), w', n1, n2, by omega, by omega⟩
theorem cQ.fnd {A : cA} {v v' : cV} {s s' : rS} (h : cQ A v s) (e1 : ∀ f, f ≠ 4 → f ≠ 33 → s'.1 f = s.1 f) (e2 : ∀ j, 5 ≤ j → j ≠ 25 → s'.2 j = s.2 j) (k : ∀ kd, 4 ≤ kd → kd < 23 → v' kd = v kd) (k0 : v' 0 0 0 = v 0 0 0 ∧ v' 0 0 1 = v 0 0 1 ∧ v' 0 0 2 = v 0 0 2 ∧ v' 0 0 7 = v 0 0 7 ∧ v' 0 0 9 = v 0 0 9 ∧ v' 0 0 14 = v 0 0 14) : cQ A v' s' := by
  obtain ⟨m, n, l, sv, se⟩ := h
  refine ⟨m.sm (k 4 (by decide) (by decide)) (k 10 (by decide) (by decide)) (k 14 (by decide) (by decide)) (k 15 (by decide) (by decide)) (e1 7 (by decide) (by decide)) (e1 9 (by decide) (by decide)) (fun j h1 _ => e2 j h1 (by omega)), ?_, ?_, fun i hi => ?_, fun c hc => ?_⟩
  · unfold cN at n ⊢
    rw [k0.1, k0.2.1, k0.2.2.1, k0.2.2.2.1, k0.2.2.2.2.1, k0.2.2.2.2.2, e1 0 (by decide) (by decide), e1 1 (by decide) (by decide), e1 2 (by decide) (by decide), e1 21 (by decide) (by decide), e1 22 (by decide) (by decide), e1 34 (by decide) (by decide)]
    exact n
  · unfold cLn at l ⊢
    rw [k 9 (by decide) (by decide), e1 47 (by decide) (by decide), e1 48 (by decide) (by decide)]
    exact l
  · exact (sv i hi).cg (by rw [k 19 (by decide) (by decide)]) (by rw [k 20 (by decide) (by decide)]) (fun x _ => by rw [k 11 (by decide) (by decide)]) (rSi'.of (e1 21 (by decide) (by decide)) (fun j h1 _ => e2 j (by omega) (by omega)) i)
  · exact (se c hc).cg (by rw [k 22 (by decide) (by decide)]) (fun j h1 _ => by rw [e2 j (by omega) (by omega)])
theorem rSh_n (q : Nat → Nat) (S : Nat) : ∀ l h x, x.1 = rCn' q h 0 S → (rSh q S l h x).1 = rCn' q (h + l) 0 S
  | 0, _, _, hx => hx
  | l + 1, h, x, hx => by
    rw [rSh, rSh_n q S l (h + 1) (rSi q h S 0 x) (by rw [rSi_n q h S S 0 x (by omega) hx, rCn_h q h S S (Nat.le_refl _)]), show h + 1 + l = h + (l + 1) by omega]
theorem zAsk_of {s : rS} {Z t : Nat} {gz : Nat → Int32} (ht : t < Z) (tz : tX gz s (t + 1) (Z - (t + 1))) : zAsk s Z (Z - (t + 1)) gz (if rStar s Z t = true then none else some (t + 1)) := by
  by_cases c : rStar s Z t = true
  · rw [if_pos c]
    unfold rStar at c
    simp only [Bool.and_eq_true, decide_eq_true_eq] at c
    refine ⟨by omega, ?_⟩
    rw [(tz 0 (by omega)).1, Nat.add_zero, show t + 1 = Z - 1 by omega, c.2]
    rfl
  · rw [if_neg c]
    refine ⟨fun y => c ?_, rfl, by omega, tz⟩
    obtain ⟨x, hx, ex⟩ := (tz 0 (by omega)).2
    rw [Nat.add_zero] at ex
    have y2 := y.2
    rw [(tz 0 (by omega)).1, Nat.add_zero, ex] at y2
    unfold rStar
    simp only [Bool.and_eq_true, decide_eq_true_eq]
    refine ⟨by omega, ?_⟩
    rw [show Z - 1 = t + 1 by omega, ex]
    exact (sm_42 x hx).mp y2
theorem rSearch_no {s : rS} {R S Z a : Nat} (h : ¬ ∃ c t, rPok s Z c t) : rSearch s R S Z a = (-2, s) := by
  unfold rSearch
  split
  · next c t e1 e2 =>
    rw [if_neg]
    intro z
    exact h ⟨c, t, e1, e2, z⟩
  · rfl
theorem rSearch_ok {s : rS} {R S Z a c t : Nat} (h : rPok s Z c t) : rSearch s R S Z a = (nI (rSh (rPq s R Z a c t (if rStar s Z t then none else some (t + 1))) S 16 0 (0, s.2 25)).1, rSt' s (rSh (rPq s R Z a c t (if rStar s Z t then none else some (t + 1))) S 16 0 (0, s.2 25))) := by
  obtain ⟨e1, e2, z⟩ := h
  unfold rSearch
  rw [e1, e2]
  dsimp only
  rw [if_pos z]
section LKU
variable {E : xE} {nx : Nat} {M : xM} {A : cA} {v : cV} {s : rS} {Q : Option Value → xM → Nat → Prop}
set_option maxRecDepth 100000 in
set_option maxHeartbeats 4000000 in
theorem w10 {x : Int32} (h : cW E nx M A v s) (he : nX E M) (hq : ∀ Z, Z ≤ 32 → s.1 4 = nI Z → cP E nx M A (rLook s (A 2 1) (A 2 2) Z x).2 (some (.int (rLook s (A 2 1) (A 2 2) Z x).1)) Q) : XC E 10 [.ref (A 0 0), .int x] M nx Q := by
  have hS := h.1.1.2.2.2.1
  have hN := h.1.1.2.1
  refine XC.run 60 [] ?_
  simp only [n10, n23, t10, ↓xh, ↓xst, ↓xrunE, ↓rG, rL, rSt, updA, List.elem_nil, List.elem_cons, Nat.reduceBEq, Bool.false_eq_true, if_false, if_true, true_and, and_true, true_or, or_true, not_false_eq_true, Nat.reduceAdd, Nat.reduceSub, Nat.reduceLeDiff, Nat.reduceEqDiff, Nat.reduceLT, ↓reduceIte, List.length_cons, List.length_nil, List.set_cons_zero, List.set_cons_succ, Nat.le_refl, Nat.zero_le, Nat.zero_sub, Nat.sub_zero, List.nil_append, List.cons_append, Option.toList_some, Option.toList_none, eq_self, ↓cFx h.1]
  refine mc23 h (fun M1 v1 g Z hZ e4 h1 js tx nc fr => ?_)
  have hq := hq Z hZ e4
  rw [rLook] at hq
  have he1 : nX E M1 := he.mv (fun q hq => fr q (h.lo hq).1 (h.lo hq).2)
  have nz : ∀ q, nx ≤ q → ¬ ccl A q := fun q hq z => by have := nc q z; omega
  have hP : ∀ q, q < xb E ∨ nx + 2 ≤ q → ¬ ccl A q := fun q hq => by
    rcases hq with z | z
    · exact (h.lo z).2
    · exact nz q (by omega)
  have z4 : ∀ f, f ≠ 4 → s.1 f = upd s.1 4 0 f := fun f hf => by simp [upd, hf]
  -- behind the pattern
  have rest : ∀ M2 nx2 pv, jG M1 M2 (nx + 2) nx2 → (pv = .null ∧ (¬ ∃ c t, rPok s Z c t) ∨ ∃ c t pt go gt gz, pv = .ref pt ∧ rPok s Z c t ∧ c < t ∧ t < Z ∧ pPt (fun q => ¬ ccl A q) M2 nx2 pt c go (t - (c + 1)) gt (Z - (t + 1)) gz ∧ tX go s 0 c ∧ tX gt s (c + 1) (t - (c + 1)) ∧ tX gz s (t + 1) (Z - (t + 1))) → XZ E 10 (xZ E 10 Q) 8 [some (.ref (A 0 0)), some (.int x), some pv] [] M2 nx2 0 0 := by
    intro M2 nx2 pv g2 hpv
    have h2 : cW E nx2 M2 A v1 (upd s.1 4 0, s.2) := h1.jg g2
    have g21 := g2.1
    have fr2 : ∀ q, q < nx → ¬ ccl A q → M2 q = M q := fun q hq hc => (g2.2 q (by omega)).trans (fr q hq hc)
    have he2 : nX E M2 := he1.mv (fun q hq => g2.2 q (by have := (h1.lo hq).1; omega))
    have q2 : cQ A v1 s := h2.2.1.s4 (fun f hf => z4 f hf) (fun _ _ => rfl) (fun _ _ => rfl)
    have nm2 : cNm nx2 M2 A s := h2.2.2.2.2.1
    have hh2 : cH A s := h2.2.2.2.2.2.2.1
    have d2 : cNd A v1 s := h2.2.2.1
    refine XZ.runH 60 [] ?_
    simp only [n10, n37, t10, ↓xh, ↓xst, ↓xrunE, ↓rG, rL, rSt, updA, List.elem_nil, List.elem_cons, Nat.reduceBEq, Bool.false_eq_true, if_false, if_true, true_and, and_true, true_or, or_true, not_false_eq_true, Nat.reduceAdd, Nat.reduceSub, Nat.reduceLeDiff, Nat.reduceEqDiff, Nat.reduceLT, ↓reduceIte, List.length_cons, List.length_nil, List.set_cons_zero, List.set_cons_succ, Nat.le_refl, Nat.zero_le, Nat.zero_sub, Nat.sub_zero, List.nil_append, List.cons_append, Option.toList_some, Option.toList_none, eq_self, ↓cFx h2.1]
    refine mc37 h2.1 q2.1 d2 ?_
    refine XZ.runH 60 [45] ?_
    by_cases c1 : rIsNode s x = true
    rotate_left
    · rw [if_neg c1] at hq ⊢
      simp only [n10, t10, ↓xh, ↓xst, ↓xrunE, ↓rG, rL, rSt, updA, List.elem_nil, List.elem_cons, Nat.reduceBEq, Bool.false_eq_true, if_false, if_true, true_and, and_true, true_or, or_true, not_false_eq_true, Nat.reduceAdd, Nat.reduceSub, Nat.reduceLeDiff, Nat.reduceEqDiff, Nat.reduceLT, ↓reduceIte, List.length_cons, List.length_nil, List.set_cons_zero, List.set_cons_succ, Nat.le_refl, Nat.zero_le, Nat.zero_sub, Nat.sub_zero, List.nil_append, List.cons_append, Option.toList_some, Option.toList_none, eq_self]
      exact hq M2 A v1 nx2 (by omega) rfl h2 fr2 (fun _ _ z => z)
    rw [if_pos c1] at hq ⊢
    obtain ⟨aa, ha, rfl⟩ := rIsNode_v c1
    rw [nI_clamp (show aa < 2 ^ 31 by omega)] at hq
    rcases hpv with ⟨rfl, np⟩ | ⟨c, t, pt, go, gt, gz, rfl, ok, ct, tZ, hp, xo, xt, xz⟩
    · rw [rSearch_no np] at hq
      simp only [n10, t10, ↓xh, ↓xst, ↓xrunE, ↓rG, rL, rSt, updA, List.elem_nil, List.elem_cons, Nat.reduceBEq, Bool.false_eq_true, if_false, if_true, true_and, and_true, true_or, or_true, not_false_eq_true, Nat.reduceAdd, Nat.reduceSub, Nat.reduceLeDiff, Nat.reduceEqDiff, Nat.reduceLT, ↓reduceIte, List.length_cons, List.length_nil, List.set_cons_zero, List.set_cons_succ, Nat.le_refl, Nat.zero_le, Nat.zero_sub, Nat.sub_zero, List.nil_append, List.cons_append, Option.toList_some, Option.toList_none, eq_self, show ¬ (1 : Int32) = 0 by decide]
      exact hq M2 A v1 nx2 (by omega) rfl h2 fr2 (fun _ _ z => z)
    rw [rSearch_ok ok] at hq
    have aN : aa / 8 < A 2 0 := by
      have : ¬ s.2 4 aa = 0 := by
        unfold rIsNode at c1
        simp only [Bool.and_eq_true, decide_eq_true_eq] at c1
        rw [nI_clamp (show aa < 2 ^ 31 by omega)] at c1
        exact c1.2
      exact d2.2.2 aa ha this
    have e8 := nI_div8 aa ha
    simp only [n10, n24, t10, ↓xh, ↓xst, ↓xrunE, ↓rG, rL, rSt, updA, List.elem_nil, List.elem_cons, Nat.reduceBEq, Bool.false_eq_true, if_false, if_true, true_and, and_true, true_or, or_true, not_false_eq_true, Nat.reduceAdd, Nat.reduceSub, Nat.reduceLeDiff, Nat.reduceEqDiff, Nat.reduceLT, ↓reduceIte, List.length_cons, List.length_nil, List.set_cons_zero, List.set_cons_succ, Nat.le_refl, Nat.zero_le, Nat.zero_sub, Nat.sub_zero, List.nil_append, List.cons_append, Option.toList_some, Option.toList_none, eq_self, show ¬ (1 : Int32) = 0 by decide, show ¬ (8 : Int32) = 0 by decide, show ¬ (some pt = none) by simp, ↓cFx h2.1, e8]
    refine mc24 (kr := 1) h2.1 he2 q2 nm2 hh2 (Or.inl rfl) aN hp (zAsk_of tZ xz) ct (by omega) xo xt ok.2.2.2.1 ok.2.2.2.2.1 (fun M3 v3 h3 k3 e3 => ?_)
    have v125 : v1 1 0 = s.2 25 := h2.2.2.2.2.2.1.2.1
    rw [v125] at e3
    rw [v125]
    have b0 : xb E ≤ A 0 0 := h2.1.1.lo (kd := 0) (i := 0) ⟨rfl, by decide⟩
    have k30 : v3 0 = v1 0 := k3 0 (by decide) (by decide)
    have cn : (rSh (rPq s (A 2 1) Z (aa / 8) c t (if rStar s Z t = true then none else some (t + 1))) (A 2 2) 16 0 (0, s.2 25)).1 ≤ 16 := by
      rw [rSh_n _ _ 16 0 _ (by rw [rCn_0])]
      have := rCn_le (rPq s (A 2 1) Z (aa / 8) c t (if rStar s Z t = true then none else some (t + 1))) (0 + 16) 0 (A 2 2)
      omega
    generalize rSh (rPq s (A 2 1) Z (aa / 8) c t (if rStar s Z t = true then none else some (t + 1))) (A 2 2) 16 0 (0, s.2 25) = xx at *
    have r4 := h3.pw 0 0 ⟨rfl, by decide⟩ (w [v1 0 0 0, v1 0 0 1, v1 0 0 2, 0, 0, 0, 0, v1 0 0 7, 0, v1 0 0 9, 0, nI xx.1, 0, 0, v1 0 0 14]) (a := A 0 0) (c := .inl (0, [.int (v1 0 0 0), .int (v1 0 0 1), .int (v1 0 0 2), .ref (A 0 0 + 1), .ref (A 0 0 + 3), .ref (A 0 0 + 6), .ref (A 0 0 + 7), .int (v1 0 0 7), .ref (A 0 0 + 8), .int (v1 0 0 9), .ref (A 0 0 + 9), .int (nI xx.1), .ref (A 0 0 + 10), .ref (A 0 0 + 11), .int (v1 0 0 14)])) rfl rfl
    refine XZ.runH 60 [] ?_
    simp only [n10, t10, ↓xh, ↓xst, ↓xrunE, ↓rG, rL, rSt, updA, List.elem_nil, List.elem_cons, Nat.reduceBEq, Bool.false_eq_true, if_false, if_true, true_and, and_true, true_or, or_true, not_false_eq_true, Nat.reduceAdd, Nat.reduceSub, Nat.reduceLeDiff, Nat.reduceEqDiff, Nat.reduceLT, ↓reduceIte, List.length_cons, List.length_nil, List.set_cons_zero, List.set_cons_succ, Nat.le_refl, Nat.zero_le, Nat.zero_sub, Nat.sub_zero, List.nil_append, List.cons_append, Option.toList_some, Option.toList_none, eq_self, ↓cFx h3, k30, b0, ↓xoP]
    obtain ⟨r, q, d, t', n, f, hh, l, b⟩ := h2
    have kk : ∀ kd, kd ≠ 0 → kd ≠ 1 → kd ≠ 2 → uv v3 0 0 (w [v1 0 0 0, v1 0 0 1, v1 0 0 2, 0, 0, 0, 0, v1 0 0 7, 0, v1 0 0 9, 0, nI xx.1, 0, 0, v1 0 0 14]) kd = v1 kd := fun kd h0 h1 h2 => by rw [uv_k h0, k3 kd h2 h1]
    refine hq _ A _ nx2 (by omega) rfl ⟨r4.rf, ?_, ?_, ?_, ?_, ?_, ?_, ?_, b⟩ (fun q hq hc => ?_) (fun _ _ z => z)
    · refine q2.fnd (fun f h4 h33 => by simp [rSt', upd, h4, h33]) (fun j _ h25 => by funext k; simp [rSt', h25]) (fun kd h4 _ => kk kd (by omega) (by omega) (by omega)) ?_
      rw [uv_s]
      exact ⟨rfl, rfl, rfl, rfl, rfl, rfl⟩
    · exact d2.sm (kk 13 (by decide) (by decide) (by decide)) (by funext k; simp [rSt'])
    · exact t'.sm (kk 23 (by decide) (by decide) (by decide)) (kk 24 (by decide) (by decide) (by decide)) (by simp [rSt', upd]) (by funext k; simp [rSt'])
    · exact n.st r4.2.2 (by funext k; simp [rSt']) (by funext k; simp [rSt'])
    · refine ⟨?_, ?_, xx.1, cn, ?_⟩
      · rw [uv_s]
        simp [rSt', upd, w]
      · rw [uv_k (by decide), e3]
        funext k
        simp [rSt']
      · simp [rSt', upd]
    · exact hh.sm (fun k hk => by have := hh.1 k hk; simpa [rSt'] using this) (fun j hj => by funext k; simp [rSt', show j ≠ 25 by omega]) (fun c _ _ j j1 _ => by simp [rSt', show j ≠ 25 by omega]) (fun i _ _ => by simp [rSt'])
    · exact l.sm (by funext k; simp [rSt']) (by funext k; simp [rSt']) (by funext k; simp [rSt'])
    · have nc0 : q ≠ A 0 0 := fun z => hc ⟨0, 0, ⟨rfl, by decide⟩, z.symm⟩
      rw [xput_ne nc0, h3.2.2 q hc]
      exact fr2 q hq hc
  refine XZ.runH 60 [8] ?_
  simp only [n10, n72, t10, ↓xh, ↓xst, ↓xrunE, ↓rG, rL, rSt, updA, List.elem_nil, List.elem_cons, Nat.reduceBEq, Bool.false_eq_true, if_false, if_true, true_and, and_true, true_or, or_true, not_false_eq_true, Nat.reduceAdd, Nat.reduceSub, Nat.reduceLeDiff, Nat.reduceEqDiff, Nat.reduceLT, ↓reduceIte, List.length_cons, List.length_nil, List.set_cons_zero, List.set_cons_succ, Nat.le_refl, Nat.zero_le, Nat.zero_sub, Nat.sub_zero, List.nil_append, List.cons_append, Option.toList_some, Option.toList_none, eq_self]
  refine mc72 (P := fun q => ¬ ccl A q) (s := s) (by have := h.2.2.2.2.2.2.2.2; omega) he1 hP ⟨by omega, by omega⟩ ⟨nz _ (by omega), nz _ (by omega)⟩ js hZ tx (fun M2 nx2 g2 np => ?_) (fun c t M2 nx2 pt go gt gz ok ct tZ g2 hp xo xt xz => ?_)
  · refine XZ.runH 60 [8] ?_
    simp only [n10, t10, ↓xh, ↓xst, ↓xrunE, ↓rG, rL, rSt, updA, List.elem_nil, List.elem_cons, Nat.reduceBEq, Bool.false_eq_true, if_false, if_true, true_and, and_true, true_or, or_true, not_false_eq_true, Nat.reduceAdd, Nat.reduceSub, Nat.reduceLeDiff, Nat.reduceEqDiff, Nat.reduceLT, ↓reduceIte, List.length_cons, List.length_nil, List.set_cons_zero, List.set_cons_succ, Nat.le_refl, Nat.zero_le, Nat.zero_sub, Nat.sub_zero, List.nil_append, List.cons_append, Option.toList_some, Option.toList_none, eq_self]
    exact rest M2 nx2 _ g2 (Or.inl ⟨rfl, np⟩)
  · refine XZ.runH 60 [8] ?_
    simp only [n10, t10, ↓xh, ↓xst, ↓xrunE, ↓rG, rL, rSt, updA, List.elem_nil, List.elem_cons, Nat.reduceBEq, Bool.false_eq_true, if_false, if_true, true_and, and_true, true_or, or_true, not_false_eq_true, Nat.reduceAdd, Nat.reduceSub, Nat.reduceLeDiff, Nat.reduceEqDiff, Nat.reduceLT, ↓reduceIte, List.length_cons, List.length_nil, List.set_cons_zero, List.set_cons_succ, Nat.le_refl, Nat.zero_le, Nat.zero_sub, Nat.sub_zero, List.nil_append, List.cons_append, Option.toList_some, Option.toList_none, eq_self]
    exact rest M2 nx2 _ g2 (Or.inr ⟨c, t, pt, go, gt, gz, rfl, ok, ct, tZ, hp, xo, xt, xz⟩)
end LKU
