/-! the text: write, take -/
theorem cW.jt {E : xE} {nx : Nat} {M : xM} {A : cA} {v : cV} {s : rS} (h : cW E nx M A v s) : ∃ Z, Z ≤ 32 ∧ s.1 4 = nI Z ∧ jT M (A 0 0 + 1) (A 1 0) (A 1 1) Z (v 24 0) ∧ ∀ k, k < Z → v 24 0 k = rSm (s.2 1 k) := by
  obtain ⟨Z, hZ, e4, e3, e2, hc, hZc, hch, hl⟩ := h.2.2.2.1
  have m23 := h.1.2.1 23 0 ⟨rfl, by decide⟩
  have m24 := h.1.2.1 24 0 ⟨rfl, by decide⟩
  refine ⟨Z, hZ, e4, ⟨⟨v 23 0 2, e2, ?_⟩, m24, hc, hZc, hch⟩, hl⟩
  have : M (A 0 0 + 1) = some (.inl (1, [.ref (A 1 0), .int 0, .int (v 23 0 2), .int (v 23 0 3)])) := m23
  rw [e3] at this
  exact this
theorem cNm.up {nx nx' : Nat} {M : xM} {A : cA} {s : rS} (h : cNm nx M A s) (hn : nx ≤ nx') : cNm nx' M A s := fun t ht => by
  obtain ⟨g, j, w, n1, n2, l1, l2⟩ := h t ht
  exact ⟨g, j, w, n1, n2, by omega, by omega⟩
theorem cR.up {E : xE} {B B' : Nat} {M0 M : xM} {A : cA} {v : cV} (h : cR E B M0 M A v) (hB : B ≤ B') : cR E B' M0 M A v := ⟨h.1.up hB, h.2⟩
theorem cQ.s4 {A : cA} {v v' : cV} {s s' : rS} (h : cQ A v s) (e1 : ∀ f, f ≠ 4 → s'.1 f = s.1 f) (e2 : ∀ j, 5 ≤ j → s'.2 j = s.2 j) (k : ∀ kd, kd < 23 → v' kd = v kd) : cQ A v' s' := by
  obtain ⟨m, n, l, sv, se⟩ := h
  refine ⟨m.sm (k 4 (by decide)) (k 10 (by decide)) (k 14 (by decide)) (k 15 (by decide)) (e1 7 (by decide)) (e1 9 (by decide)) (fun j h1 _ => e2 j h1), ?_, ?_, fun i hi => ?_, fun c hc => ?_⟩
  · unfold cN at n ⊢
    rw [k 0 (by decide), e1 0 (by decide), e1 1 (by decide), e1 2 (by decide), e1 21 (by decide), e1 22 (by decide), e1 34 (by decide)]
    exact n
  · unfold cLn at l ⊢
    rw [k 9 (by decide), e1 47 (by decide), e1 48 (by decide)]
    exact l
  · exact (sv i hi).cg (by rw [k 19 (by decide)]) (by rw [k 20 (by decide)]) (fun x _ => by rw [k 11 (by decide)]) (rSi'.of (e1 21 (by decide)) (fun j h1 _ => e2 j (by omega)) i)
  · exact (se c hc).cg (by rw [k 22 (by decide)]) (fun j h1 _ => by rw [e2 j (by omega)])
theorem cH.s5 {A : cA} {s s' : rS} (h : cH A s) (e2 : ∀ j, 5 ≤ j → s'.2 j = s.2 j) : cH A s' := h.sm (fun k hk => by rw [e2 7 (by decide), e2 8 (by decide)]; exact h.1 k hk) (fun j hj => e2 j (by omega)) (fun c _ _ j j1 _ => by rw [e2 j (by omega)]) (fun i _ _ => ⟨by rw [e2 17 (by decide)], fun k _ => by rw [e2 18 (by decide)], by rw [e2 19 (by decide)], by rw [e2 20 (by decide)]⟩)
section TXT
variable {E : xE} {nx : Nat} {M : xM} {A : cA} {v : cV} {s : rS} {Q : Option Value → xM → Nat → Prop}
set_option maxRecDepth 100000 in
set_option maxHeartbeats 4000000 in
theorem mc23 (h : cW E nx M A v s) (hq : ∀ M' v' g Z, Z ≤ 32 → s.1 4 = nI Z → cW E (nx + 2) M' A v' (upd s.1 4 0, s.2) → jS M' nx (nx + 1) Z g → tX g s 0 Z → (∀ q, ccl A q → q < nx) → (∀ q, q < nx → ¬ ccl A q → M' q = M q) → Q (some (.ref nx)) M' (nx + 2)) : XC E 23 [.ref (A 0 0)] M nx Q := by
  obtain ⟨Z, hZ, e4, jt, hl⟩ := h.jt
  obtain ⟨r, q, d, t, n, f, hh, l, b⟩ := id h
  have l23 : clv A 23 0 := ⟨rfl, by decide⟩
  have l24 : clv A 24 0 := ⟨rfl, by decide⟩
  have b1 : A 0 0 + 1 < nx := r.1.hi l23
  have b1' : xb E ≤ A 0 0 + 1 := r.1.lo l23
  have b2 : A 1 0 < nx := r.1.hi l24
  have b2' : xb E ≤ A 1 0 := r.1.lo l24
  have o23 : ∀ P, xobj M (A 0 0 + 1) 1 P = P [.ref (A 1 0), .int 0, .int (v 23 0 2), .int (v 23 0 3)] := cO (r.2.1 23 0 l23)
  refine XC.run 60 [] ?_
  simp only [n23, n160, t23, ↓xh, ↓xst, ↓xrunE, ↓rG, rL, rSt, updA, List.elem_nil, List.elem_cons, Nat.reduceBEq, Bool.false_eq_true, if_false, if_true, true_and, and_true, true_or, or_true, not_false_eq_true, Nat.reduceAdd, Nat.reduceSub, Nat.reduceLeDiff, Nat.reduceEqDiff, Nat.reduceLT, ↓reduceIte, List.length_cons, List.length_nil, List.set_cons_zero, List.set_cons_succ, Nat.le_refl, Nat.zero_le, Nat.zero_sub, Nat.sub_zero, List.nil_append, List.cons_append, Option.toList_some, Option.toList_none, eq_self, ↓cFx r, ↓o23]
  refine jc160 b b1 b2' b2 jt (fun M1 g j1 e1 f1 => ?_)
  have r1 := r.fr (M' := M1) f1
  have jt1 : jT M1 (A 0 0 + 1) (A 1 0) (A 1 1) Z (v 24 0) := by
    obtain ⟨⟨ml, hml, ho⟩, h2, h3⟩ := jt
    exact ⟨⟨ml, hml, by rw [f1 _ b1]; exact ho⟩, by rw [f1 _ b2]; exact h2, h3⟩
  have o23' : ∀ P, xobj M1 (A 0 0 + 1) 1 P = P [.ref (A 1 0), .int 0, .int (v 23 0 2), .int (v 23 0 3)] := cO (r1.2.1 23 0 l23)
  refine XZ.runH 60 [] ?_
  simp only [n23, n161, t23, ↓xh, ↓xst, ↓xrunE, ↓rG, rL, rSt, updA, List.elem_nil, List.elem_cons, Nat.reduceBEq, Bool.false_eq_true, if_false, if_true, true_and, and_true, true_or, or_true, not_false_eq_true, Nat.reduceAdd, Nat.reduceSub, Nat.reduceLeDiff, Nat.reduceEqDiff, Nat.reduceLT, ↓reduceIte, List.length_cons, List.length_nil, List.set_cons_zero, List.set_cons_succ, Nat.le_refl, Nat.zero_le, Nat.zero_sub, Nat.sub_zero, List.nil_append, List.cons_append, Option.toList_some, Option.toList_none, eq_self, ↓cFx r1, ↓o23']
  refine jc161 (by omega) b1' (by omega) (by omega) jt1 (fun M2 j2 f2 => ?_)
  refine XZ.runH 60 [] ?_
  simp only [n23, t23, ↓xh, ↓xst, ↓xrunE, ↓rG, rL, rSt, updA, List.elem_nil, List.elem_cons, Nat.reduceBEq, Bool.false_eq_true, if_false, if_true, true_and, and_true, true_or, or_true, not_false_eq_true, Nat.reduceAdd, Nat.reduceSub, Nat.reduceLeDiff, Nat.reduceEqDiff, Nat.reduceLT, ↓reduceIte, List.length_cons, List.length_nil, List.set_cons_zero, List.set_cons_succ, Nat.le_refl, Nat.zero_le, Nat.zero_sub, Nat.sub_zero, List.nil_append, List.cons_append, Option.toList_some, Option.toList_none, eq_self]
  obtain ⟨⟨ml, hml, ho⟩, h24, hcap, _, hch⟩ := j2
  have r2 : cR E nx M1 M2 A (uv v 23 0 (w [0, 0, ml, 0])) := r1.set 23 0 l23 ⟨ho, fun q hq => f2 q hq⟩
  have nc : ∀ q, ccl A q → q < nx := fun q ⟨kd, i, hl, e⟩ => e ▸ r.1.hi hl
  have fr : ∀ q, q < nx → ¬ ccl A q → M2 q = M q := fun q hq hc => by
    rw [f2 q (fun z => hc ⟨23, 0, l23, z.symm⟩)]
    exact f1 q hq
  have z : ∀ f, f ≠ 4 → upd s.1 4 0 f = s.1 f := fun f hf => by simp [upd, hf]
  refine hq M2 _ g Z hZ e4 ⟨r2.rf.up (by omega), q.s4 z (fun _ _ => rfl) (fun kd hk => uv_k (by omega)), d.sm (uv_k (by decide)) rfl, ?_, ?_, ?_, hh.s5 (fun _ _ => rfl), l.sm rfl rfl rfl, by omega⟩ ?_ ?_ nc fr
  · refine ⟨0, by omega, by simp [upd]; rfl, by rw [uv_s]; rfl, by rw [uv_s]; exact hml, hcap, by omega, fun k hk => ?_, fun k hk => by omega⟩
    rw [uv_k (by decide)]
    exact hch k hk
  · intro t' ht'
    obtain ⟨g', j', w', n1, n2, l1, l2⟩ := n t' ht'
    exact ⟨g', j'.mv (fr _ l1 n1) (fr _ l2 n2), w', n1, n2, by omega, by omega⟩
  · unfold cFo at f ⊢
    rw [uv_k (by decide), uv_k (by decide)]
    exact f
  · refine j1.mv (f2 _ (by omega)) (f2 _ (by omega))
  · intro k hk
    rw [Nat.zero_add]
    exact ⟨(e1 k hk).trans (hl k hk), l.2.2 k (by omega)⟩
/-- the builder's bytes may stand anew -/
def A3 (A : cA) (p cap : Nat) : cA := uA (uA A 1 0 p) 1 1 cap
theorem A3_v (A : cA) (p cap : Nat) : A3 A p cap 1 0 = p ∧ A3 A p cap 1 1 = cap ∧ ∀ g i, g ≠ 1 → A3 A p cap g i = A g i := by
  unfold A3
  exact ⟨by simp [uA], by simp [uA], fun g i hg => by simp [uA, hg]⟩
theorem A3_lv {A : cA} {p cap kd i : Nat} : clv (A3 A p cap) kd i ↔ clv A kd i := by
  obtain ⟨_, _, bo⟩ := A3_v A p cap
  rw [clv_i, clv_i]
  have : cl (A3 A p cap) kd = cl A kd := by
    unfold cl
    rw [bo 2 0 (by decide), bo 2 1 (by decide), bo 2 2 (by decide), bo 2 3 (by decide)]
  rw [this]
theorem A3_ad {A : cA} {p cap kd i : Nat} (h : kd < 24) : cad (A3 A p cap) kd i = cad A kd i := by
  obtain ⟨_, _, bo⟩ := A3_v A p cap
  have b0 := fun i => bo 0 i (by decide)
  have b3 := fun i => bo 3 i (by decide)
  have b4 := fun i => bo 4 i (by decide)
  have b5 := fun i => bo 5 i (by decide)
  have b6 := fun i => bo 6 i (by decide)
  obtain rfl | rfl | rfl | rfl | rfl | rfl | rfl | rfl | rfl | rfl | rfl | rfl | rfl | rfl | rfl | rfl | rfl | rfl | rfl | rfl | rfl | rfl | rfl | rfl : kd = 0 ∨ kd = 1 ∨ kd = 2 ∨ kd = 3 ∨ kd = 4 ∨ kd = 5 ∨ kd = 6 ∨ kd = 7 ∨ kd = 8 ∨ kd = 9 ∨ kd = 10 ∨ kd = 11 ∨ kd = 12 ∨ kd = 13 ∨ kd = 14 ∨ kd = 15 ∨ kd = 16 ∨ kd = 17 ∨ kd = 18 ∨ kd = 19 ∨ kd = 20 ∨ kd = 21 ∨ kd = 22 ∨ kd = 23 := by omega
  all_goals simp only [cad, b0, b3, b4, b5, b6]
theorem A3_ct {A : cA} {p cap kd i : Nat} {g : Nat → Int32} (h : kd < 23) : cct (A3 A p cap) kd i g = cct A kd i g := by
  obtain ⟨_, _, bo⟩ := A3_v A p cap
  have b0 := fun i => bo 0 i (by decide)
  have b2 := fun i => bo 2 i (by decide)
  have b3 := fun i => bo 3 i (by decide)
  have b4 := fun i => bo 4 i (by decide)
  have b5 := fun i => bo 5 i (by decide)
  have b6 := fun i => bo 6 i (by decide)
  have b7 := fun i => bo 7 i (by decide)
  have b10 := fun i => bo 10 i (by decide)
  obtain rfl | rfl | rfl | rfl | rfl | rfl | rfl | rfl | rfl | rfl | rfl | rfl | rfl | rfl | rfl | rfl | rfl | rfl | rfl | rfl | rfl | rfl | rfl : kd = 0 ∨ kd = 1 ∨ kd = 2 ∨ kd = 3 ∨ kd = 4 ∨ kd = 5 ∨ kd = 6 ∨ kd = 7 ∨ kd = 8 ∨ kd = 9 ∨ kd = 10 ∨ kd = 11 ∨ kd = 12 ∨ kd = 13 ∨ kd = 14 ∨ kd = 15 ∨ kd = 16 ∨ kd = 17 ∨ kd = 18 ∨ kd = 19 ∨ kd = 20 ∨ kd = 21 ∨ kd = 22 := by omega
  all_goals simp only [cct, b0, b2, b3, b4, b5, b6, b7, b10]
theorem gr3 {nx' p' cap' : Nat} {M' : xM} {g : Nat → Int32} {ml x : Int32} (h : cR E nx M M A v) (hn : nx ≤ nx') (hb : xb E ≤ nx) (hp : p' = A 1 0 ∨ p' = nx) (hp' : p' < nx') (m23 : M' (A 0 0 + 1) = some (.inl (1, [.ref p', .int 0, .int ml, .int x]))) (m24 : M' p' = some (.inr (1, cap', fun k => .int (g k)))) (f : ∀ q, q < nx → q ≠ A 0 0 + 1 → q ≠ A 1 0 → M' q = M q) :
    cR E nx' M' M' (A3 A p' cap') (uv (uv v 23 0 (w [0, 0, ml, x])) 24 0 g) ∧ (∀ q, q < nx → ccl (A3 A p' cap') q → ccl A q) ∧ ∀ q, q < nx → ¬ ccl A q → M' q = M q := by
  obtain ⟨e0, e1, bo⟩ := A3_v A p' cap'
  have l23 : clv A 23 0 := ⟨rfl, by decide⟩
  have l24 : clv A 24 0 := ⟨rfl, by decide⟩
  have b1 : A 0 0 + 1 < nx := h.1.hi l23
  have b2 : A 1 0 < nx := h.1.hi l24
  have b2' : xb E ≤ A 1 0 := h.1.lo l24
  obtain ⟨⟨O, hO⟩, cnts⟩ := h.1
  have lt24 : ∀ kd i, clv A kd i → kd ≤ 24 := by
    intro kd i hl
    by_cases z : 10 ≤ kd ∧ kd ≤ 22
    · omega
    · exact ((clv_d z).mp hl).2
  have nep : ∀ kd i, clv A kd i → kd ≠ 24 → cad A kd i ≠ p' := by
    intro kd i hl hk z
    rcases hp with hp | hp
    · exact hk (h.1.apart hl l24 (z.trans hp)).1
    · have := h.1.hi hl
      omega
  have a24 : cad (A3 A p' cap') 24 0 = p' := e0
  have a23 : cad (A3 A p' cap') 23 0 = A 0 0 + 1 := by show A3 A p' cap' 0 0 + 1 = _; rw [bo 0 0 (by decide)]
  refine ⟨⟨⟨⟨fun q => if q = p' then (24, 0) else O q, fun kd i hl => ?_⟩, ?_⟩, fun kd i hl => ?_, fun _ _ => rfl⟩, fun q hq hc => ?_, fun q hq hc => f q hq (fun z => hc ⟨23, 0, l23, z.symm⟩) (fun z => hc ⟨24, 0, l24, z.symm⟩)⟩
  · rw [A3_lv] at hl
    by_cases z : kd = 24
    · subst z
      have i0 : i = 0 := hl.1
      subst i0
      rw [a24]
      exact ⟨if_pos rfl, by rcases hp with hp | hp <;> omega, hp'⟩
    · have := lt24 kd i hl
      rw [A3_ad (by omega)]
      refine ⟨?_, (hO kd i hl).2.1, by have := (hO kd i hl).2.2; omega⟩
      show (if cad A kd i = p' then (24, 0) else O (cad A kd i)) = _
      rw [if_neg (nep kd i hl z)]
      exact (hO kd i hl).1
  · rw [bo 2 0 (by decide), bo 2 1 (by decide), bo 2 2 (by decide), bo 2 3 (by decide)]
    refine ⟨cnts.1, cnts.2.1, cnts.2.2.1, cnts.2.2.2.1, fun c hc => ?_⟩
    rw [bo 10 c (by decide)]
    exact cnts.2.2.2.2 c hc
  · rw [A3_lv] at hl
    by_cases z : kd = 24
    · subst z
      have i0 : i = 0 := hl.1
      subst i0
      rw [a24, m24, uv_s]
      show _ = some (Sum.inr (1, A3 A p' cap' 1 1, fun k => Value.int (g k)))
      rw [e1]
    · by_cases y : kd = 23
      · subst y
        have i0 : i = 0 := hl.1
        subst i0
        rw [a23, m23, uv_k (by decide), uv_s]
        show _ = some (Sum.inl (1, [Value.ref (A3 A p' cap' 1 0), .int 0, .int ml, .int x]))
        rw [e0]
      · have := lt24 kd i hl
        rw [A3_ad (by omega), A3_ct (by omega), uv_k z, uv_k y, f _ (hO kd i hl).2.2 (fun zz => y (h.1.apart hl l23 zz).1) (fun zz => z (h.1.apart hl l24 zz).1)]
        exact h.2.1 kd i hl
  · obtain ⟨kd, i, hl, e⟩ := hc
    rw [A3_lv] at hl
    by_cases z : kd = 24
    · subst z
      have i0 : i = 0 := hl.1
      subst i0
      rw [a24] at e
      rcases hp with hp | hp
      · exact ⟨24, 0, l24, by rw [← e, hp]; rfl⟩
      · omega
    · have := lt24 kd i hl
      rw [A3_ad (by omega)] at e
      exact ⟨kd, i, hl, e⟩
end TXT
