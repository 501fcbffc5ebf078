/-! a network added -/
/-- the strings that the class writes out -/
def nX (E : xE) (M : xM) : Prop := (∃ p f, jS M (E.2.2.2 0) p 5 f ∧ (∀ x, rCh x → ((jIx f x 5 0).isSome = rSign x)) ∧ E.2.2.2 0 < xb E ∧ p < xb E) ∧ (∃ p f, jS M (E.2.2.2 1) p 0 f ∧ E.2.2.2 1 < xb E ∧ p < xb E) ∧ (∃ p f, jS M (E.2.2.2 2) p 1 f ∧ f 0 = 42 ∧ E.2.2.2 2 < xb E ∧ p < xb E) ∧ ∃ p f, jS M (E.2.2.2 3) p 1 f ∧ f 0 = 61 ∧ E.2.2.2 3 < xb E ∧ p < xb E
theorem nX.e {E : xE} {M : xM} (h : nX E M) : nE E M := by
  obtain ⟨⟨p0, f0, j0, x0, _⟩, ⟨p1, f1, j1, _⟩, _, p3, f3, j3, x3, _⟩ := h
  exact ⟨⟨p0, f0, j0, x0⟩, ⟨p1, f1, j1⟩, p3, f3, j3, x3⟩
theorem nX.mv {E : xE} {M M' : xM} (h : nX E M) (e : ∀ q, q < xb E → M' q = M q) : nX E M' := by
  obtain ⟨⟨p0, f0, j0, x0, a0, b0⟩, ⟨p1, f1, j1, a1, b1⟩, ⟨p2, f2, j2, x2, a2, b2⟩, p3, f3, j3, x3, a3, b3⟩ := h
  exact ⟨⟨p0, f0, j0.mv (e _ a0) (e _ b0), x0, a0, b0⟩, ⟨p1, f1, j1.mv (e _ a1) (e _ b1), a1, b1⟩, ⟨p2, f2, j2.mv (e _ a2) (e _ b2), x2, a2, b2⟩, p3, f3, j3.mv (e _ a3) (e _ b3), x3, a3, b3⟩
theorem cW.lo {E : xE} {nx : Nat} {M : xM} {A : cA} {v : cV} {s : rS} (h : cW E nx M A v s) {q : Nat} (hq : q < xb E) : q < nx ∧ ¬ ccl A q := by
  have b := h.2.2.2.2.2.2.2.2
  refine ⟨by omega, fun ⟨kd, i, hl, e⟩ => ?_⟩
  have := h.1.1.lo hl
  omega
def A33 (A : cA) (nx zs zp : Nat) : cA := uA (uA (uA (uA A 2 0 (A 2 0 + 1)) 3 (A 2 0) nx) 7 (A 2 0) zs) 8 (A 2 0) zp
theorem A33_v (A : cA) (nx zs zp : Nat) : A33 A nx zs zp 0 0 = A 0 0 ∧ A33 A nx zs zp 2 0 = A 2 0 + 1 ∧ A33 A nx zs zp 2 1 = A 2 1 ∧ A33 A nx zs zp 2 2 = A 2 2 ∧ A33 A nx zs zp 2 3 = A 2 3 ∧ (∀ g i, i ≠ A 2 0 → g ≠ 2 → A33 A nx zs zp g i = A g i) ∧ A33 A nx zs zp 3 (A 2 0) = nx ∧ A33 A nx zs zp 7 (A 2 0) = zs ∧ A33 A nx zs zp 8 (A 2 0) = zp ∧ ∀ g i, g ≠ 2 → g ≠ 3 → g ≠ 7 → g ≠ 8 → A33 A nx zs zp g i = A g i := by
  unfold A33
  refine ⟨by simp [uA], by simp [uA], by simp [uA], by simp [uA], by simp [uA], fun g i a b => by simp [uA, a, b], by simp [uA], by simp [uA], by simp [uA], fun g i a b c d => by simp [uA, a, b, c, d]⟩
theorem cl_nn {A A' : cA} {kd : Nat} (h1 : A' 2 1 = A 2 1) (h2 : A' 2 2 = A 2 2) (h3 : A' 2 3 = A 2 3) (h12 : kd ≠ 12) (h13 : kd ≠ 13) : cl A' kd = cl A kd := by
  unfold cl
  split <;> first | rw [h1] | rw [h2] | rw [h3] | rfl | exact absurd rfl h12 | exact absurd rfl h13
theorem gr33 {E : xE} {nx zs zp : Nat} {M2 : xM} {A : cA} {v : cV} (h : cR E nx M2 M2 A v) (hE : xb E ≤ nx) (hN : A 2 0 < 8) (p0 : M2 nx = some (.inl (5, [.ref zs, .ref (nx + 1)]))) (p1 : M2 (nx + 1) = some (.inr (2, 8, fun _ => .int 0))) :
    cR E (nx + 2) (xput M2 (A 0 0 + 4) (.inr (4, 8, updV (fun k => if k < A 2 0 then .ref (A 3 k) else .null) (A 2 0) (.ref nx)))) (xput M2 (A 0 0 + 4) (.inr (4, 8, updV (fun k => if k < A 2 0 then .ref (A 3 k) else .null) (A 2 0) (.ref nx)))) (A33 A nx zs zp) (uv v 13 (A 2 0) zE) ∧ ∀ q, (ccl (A33 A nx zs zp) q → ccl A q ∨ q = nx ∨ q = nx + 1) := by
  obtain ⟨b0, b20, b21, b22, b23, bi, b3N, b7N, b8N, bo⟩ := A33_v A nx zs zp
  have l5 : clv A 5 0 := ⟨rfl, by decide⟩
  have lt5 : A 0 0 + 4 < nx := h.1.hi l5
  have x : aEx A (A33 A nx zs zp) := ⟨⟨b0, bo 1 0 (by decide) (by decide) (by decide) (by decide), bo 1 1 (by decide) (by decide) (by decide) (by decide)⟩, fun i hi => ⟨bi 3 i (by omega) (by decide), bi 7 i (by omega) (by decide)⟩, fun i _ => bo 4 i (by decide) (by decide) (by decide) (by decide), fun i _ => ⟨bo 5 i (by decide) (by decide) (by decide) (by decide), bi 7 _ (by omega) (by decide), bi 7 _ (by omega) (by decide)⟩, fun i _ => ⟨bo 6 i (by decide) (by decide) (by decide) (by decide), bo 10 i (by decide) (by decide) (by decide) (by decide)⟩⟩
  have newc : ∀ kd i, clv (A33 A nx zs zp) kd i → ¬ clv A kd i → (kd = 12 ∨ kd = 13) ∧ i = A 2 0 := by
    intro kd i h1 h2
    by_cases e : kd = 12
    · subst e
      have h1' : i < A33 A nx zs zp 2 0 := h1
      have h2' : ¬ i < A 2 0 := h2
      exact ⟨Or.inl rfl, by omega⟩
    · by_cases e2 : kd = 13
      · subst e2
        have h1' : i < A33 A nx zs zp 2 0 := h1
        have h2' : ¬ i < A 2 0 := h2
        exact ⟨Or.inr rfl, by omega⟩
      · rw [clv_i, cl_nn b21 b22 b23 e e2, ← clv_i] at h1
        exact absurd h1 h2
  have a12 : cad (A33 A nx zs zp) 12 (A 2 0) = nx := b3N
  have a13 : cad (A33 A nx zs zp) 13 (A 2 0) = nx + 1 := by show A33 A nx zs zp 3 (A 2 0) + 1 = _; rw [b3N]
  refine ⟨h.grow (O' := fun q => if q = nx then (12, A 2 0) else (13, A 2 0)) x hE (by omega) (fun kd => ?_) (fun kd i h1 h2 => ?_) (fun kd i hl => ?_) (by rw [b20]; omega) (by rw [b21]; exact h.1.2.2.1) (by rw [b22]; exact h.1.2.2.2.1) (by rw [b23]; exact h.1.2.2.2.2.1) (fun c hc => ?_), fun q hc => ?_⟩
  · by_cases e : kd = 12
    · subst e
      show A 2 0 ≤ A33 A nx zs zp 2 0
      omega
    · by_cases e2 : kd = 13
      · subst e2
        show A 2 0 ≤ A33 A nx zs zp 2 0
        omega
      · rw [cl_nn b21 b22 b23 e e2]
        exact Nat.le_refl _
  · obtain ⟨rfl | rfl, rfl⟩ := newc kd i h1 h2
    · rw [a12, xput_ne (by omega), p0]
      refine ⟨?_, by omega, by omega, by simp⟩
      show _ = some (Sum.inl (5, [Value.ref (A33 A nx zs zp 7 (A 2 0)), .ref (A33 A nx zs zp 3 (A 2 0) + 1)]))
      rw [b7N, b3N]
    · rw [a13, xput_ne (by omega), p1, uv_s]
      exact ⟨rfl, by omega, by omega, by simp⟩
  · by_cases e : kd = 5 ∧ i = 0
    · obtain ⟨rfl, rfl⟩ := e
      have : xput M2 (A 0 0 + 4) (.inr (4, 8, updV (fun k => if k < A 2 0 then .ref (A 3 k) else .null) (A 2 0) (.ref nx))) (cad A 5 0) = some (.inr (4, 8, updV (fun k => if k < A 2 0 then .ref (A 3 k) else .null) (A 2 0) (.ref nx))) := xput_same _ _ _
      rw [this]
      show _ = some (Sum.inr (4, 8, fun k => if k < A33 A nx zs zp 2 0 then Value.ref (A33 A nx zs zp 3 k) else .null))
      congr 4
      funext k
      unfold updV
      rw [b20]
      by_cases z : k = A 2 0
      · rw [if_pos z, if_pos (by omega), z, b3N]
      · rw [if_neg z, bi 3 k z (by decide)]
        dsimp only
        by_cases y : k < A 2 0
        · rw [if_pos y, if_pos (by omega)]
        · rw [if_neg y, if_neg (by omega)]
    · have ne : cad A kd i ≠ A 0 0 + 4 := fun z => e (h.1.apart hl l5 z)
      have n5 : kd ≠ 5 := fun z => e ⟨z, by subst z; exact hl.1⟩
      rw [xput_ne ne, h.2.1 kd i hl]
      have ev : uv v 13 (A 2 0) zE kd i = v kd i := uv_n (fun z => by obtain ⟨rfl, rfl⟩ := z; exact absurd hl (Nat.lt_irrefl _))
      rw [ev, x.ct h.1.2.2.2.2.2 hl (fun z => absurd z n5) (fun _ => b21) (fun _ => b22) (fun _ => b23)]
  · rw [b23] at hc
    rw [b22, bo 10 c (by decide) (by decide) (by decide) (by decide)]
    exact h.1.2.2.2.2.2 c hc
  · obtain ⟨kd, i, hl, e⟩ := hc
    by_cases z : clv A kd i
    · exact Or.inl ⟨kd, i, z, by rw [← x.ad z]; exact e⟩
    · right
      obtain ⟨rfl | rfl, rfl⟩ := newc kd i hl z
      · rw [a12] at e; exact Or.inl e.symm
      · rw [a13] at e; exact Or.inr e.symm
theorem rKeep_in {s : rS} {n a d k : Nat} (hk : k < d) : (rKeep s n a d).2 2 (32 * n + k) = s.2 1 (a + k) := by
  unfold rKeep
  dsimp only
  rw [up2_n (by decide)]
  simp only [rPt, rKpF, if_true]
  rw [if_pos (by omega), show 32 * n + k - 32 * n = k by omega]
theorem rKeep_out {s : rS} {n a d q : Nat} (hq : ¬ (32 * n ≤ q ∧ q < 32 * n + d)) : (rKeep s n a d).2 2 q = s.2 2 q := by
  unfold rKeep
  dsimp only
  rw [up2_n (by decide)]
  simp only [rPt]
  rw [if_neg hq]
theorem rKeep_ln {s : rS} {n a d t : Nat} : (rKeep s n a d).2 3 t = if t = n then nI d else (rPt (rKpF s n a) s (32 * n) d).2 3 t := by
  unfold rKeep
  dsimp only
  rw [up2_s]
theorem rKeep_3 {s : rS} {n a d t : Nat} (h : t ≠ n) : (rKeep s n a d).2 3 t = s.2 3 t := by
  rw [rKeep_ln, if_neg h]
  simp only [rPt, rKpF]
  split
  · rfl
  · rfl
theorem rLt.kp {s : rS} {n a d : Nat} (h : rLt s) (hn : n < 40) (had : a + d ≤ 32) : rLt (rKeep s n a d) := by
  obtain ⟨h1, h2, h3⟩ := h
  refine ⟨fun t ht => ?_, fun k hk => ?_, fun k hk => ?_⟩
  · by_cases e : t = n
    · have : (rKeep s n a d).2 3 t = nI d := by rw [rKeep_ln, if_pos e]
      unfold rLn
      rw [this, nI_clamp (by omega)]
      exact ⟨by omega, rfl⟩
    · unfold rLn
      rw [rKeep_3 e]
      exact h1 t ht
  · by_cases c : 32 * n ≤ k ∧ k < 32 * n + d
    · obtain ⟨j, hj, rfl⟩ : ∃ j, j < d ∧ k = 32 * n + j := ⟨k - 32 * n, by omega, by omega⟩
      rw [rKeep_in hj]
      exact h3 _ (by omega)
    · rw [rKeep_out c]
      exact h2 k hk
  · rw [rKeep_2 s n a d (by decide) (by decide)]
    exact h3 k hk
theorem cx5 : xdef 5 = [.null, .null] := by decide +kernel
section NET
variable {E : xE} {nx : Nat} {M : xM} {A : cA} {v : cV} {s : rS} {Q : Option Value → xM → Nat → Prop}
set_option maxRecDepth 100000 in
set_option maxHeartbeats 4000000 in
theorem mc57 {p z : Nat} (hb : xb E ≤ p) (hn : p < nx) (h : M p = some (.inl (5, [.null, .null]))) (hq : ∀ M', M' p = some (.inl (5, [.ref z, .ref nx])) → M' nx = some (.inr (2, 8, fun _ => .int 0)) → (∀ q, q ≠ p → q ≠ nx → M' q = M q) → Q none M' (nx + 1)) : XC E 57 [.ref p, .ref z] M nx Q := by
  have o1 : ∀ c P, xobj (xput M nx c) p 5 P = P [.null, .null] := fun c P => by unfold xobj; rw [xput_ne (by omega), h]; simp
  refine XC.run 60 [] ?_
  simp only [n57, t57, ↓xh, ↓xst, ↓xrunE, ↓rG, rL, rSt, updA, List.elem_nil, List.elem_cons, Nat.reduceBEq, Bool.false_eq_true, if_false, if_true, true_and, and_true, true_or, or_true, not_false_eq_true, Nat.reduceAdd, Nat.reduceSub, Nat.reduceLeDiff, Nat.reduceEqDiff, Nat.reduceLT, ↓reduceIte, List.length_cons, List.length_nil, List.set_cons_zero, List.set_cons_succ, Nat.le_refl, Nat.zero_le, Nat.zero_sub, Nat.sub_zero, List.nil_append, List.cons_append, Option.toList_some, Option.toList_none, eq_self, show ¬ (8 : Int32) < 0 by decide, show Int32.toNatClampNeg 8 = 8 by decide, Nat.reduceLeDiff, ↓xoP, ↓o1, xpp, hb]
  refine hq _ (xput_same _ _ _) (by rw [xput_ne (by omega), xput_same]) (fun q e1 e2 => by rw [xput_ne e1, xput_ne e2])
end NET
