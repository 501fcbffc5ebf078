/-! a session opened -/
theorem cM.aA {A A' : cA} {v v' : cV} {s s' : rS} (h : cM A v s) (a0 : A' 2 0 = A 2 0) (a1 : A' 2 1 = A 2 1) (k4 : v' 4 = v 4) (k10 : v' 10 = v 10) (k14 : v' 14 = v 14) (k15 : v' 15 = v 15) (e7 : s'.1 7 = s.1 7) (e9 : s'.1 9 = s.1 9) (e : ∀ j, 5 ≤ j → j ≤ 11 → s'.2 j = s.2 j) : cM A' v' s' := by
  have := h.sm k4 k10 k14 k15 e7 e9 e
  unfold cM at this ⊢
  rw [a0, a1]
  exact this
theorem cQ.opn {A A' : cA} {v v' : cV} {s : rS} {X aa ii : Nat} (h : cQ A v s) (hh : cH A s) (eX : A 2 3 = X) (hX : X < 12) (ha : aa < 64) (hi : ii < A 2 2) (hS : A 2 2 ≤ 16)
    (a0 : A' 2 0 = A 2 0) (a1 : A' 2 1 = A 2 1) (a2 : A' 2 2 = A 2 2) (a3 : A' 2 3 = X + 1) (a10 : ∀ c, c < X → A' 10 c = A 10 c) (aX : A' 10 X = ii)
    (k : ∀ kd, kd ≠ 0 → kd ≠ 22 → v' kd = v kd) (k22 : ∀ c, c < X → v' 22 c = v 22 c) (kX : v' 22 X = w [nI X, nI (aa / 8), 0, 0, 0, -1, 0, 0, 0, 0, 0, 0, 0]) (k0 : v' 0 0 0 = v 0 0 0 ∧ v' 0 0 1 = v 0 0 1 ∧ v' 0 0 2 = v 0 0 2 ∧ v' 0 0 7 = v 0 0 7 ∧ v' 0 0 9 = nI (X + 1) ∧ v' 0 0 14 = v 0 0 14) :
    cQ A' v' (upd s.1 34 (nI (X + 1)), up2 (up2 s.2 26 X (nI aa)) 27 X (nI ii)) := by
  obtain ⟨m, n, l, sv, se⟩ := h
  have u : ∀ j, j ≠ 26 → j ≠ 27 → up2 (up2 s.2 26 X (nI aa)) 27 X (nI ii) j = s.2 j := fun j x y => by rw [up2_n y, up2_n x]
  have uo : ∀ j q, q ≠ X → up2 (up2 s.2 26 X (nI aa)) 27 X (nI ii) j q = s.2 j q := fun j q hq => by rw [up2_off hq, up2_off hq]
  have z : ∀ f, f ≠ 34 → upd s.1 34 (nI (X + 1)) f = s.1 f := fun f hf => by simp [upd, hf]
  refine ⟨m.aA (s' := (upd s.1 34 (nI (X + 1)), up2 (up2 s.2 26 X (nI aa)) 27 X (nI ii))) a0 a1 (k 4 (by decide) (by decide)) (k 10 (by decide) (by decide)) (k 14 (by decide) (by decide)) (k 15 (by decide) (by decide)) (z 7 (by decide)) (z 9 (by decide)) (fun j h1 h2 => u j (by omega) (by omega)), ?_, ?_, fun i hi => ?_, fun c hc => ?_⟩
  · unfold cN at n ⊢
    rw [k0.1, k0.2.1, k0.2.2.1, k0.2.2.2.1, k0.2.2.2.2.1, k0.2.2.2.2.2, a2, a3]
    dsimp only
    rw [z 0 (by decide), z 1 (by decide), z 2 (by decide), z 21 (by decide), z 22 (by decide), show upd s.1 34 (nI (X + 1)) 34 = nI (X + 1) by simp [upd]]
    exact ⟨n.1, ⟨n.2.1.1, n.2.1.2.1, rfl, rfl⟩, n.2.2⟩
  · unfold cLn at l ⊢
    rw [k 9 (by decide) (by decide)]
    exact l
  · rw [a2] at hi
    exact (sv i hi).cg (by rw [k 19 (by decide) (by decide)]) (by rw [k 20 (by decide) (by decide)]) (fun x _ => by rw [k 11 (by decide) (by decide)]) (rSi'.of (s' := (upd s.1 34 (nI (X + 1)), up2 (up2 s.2 26 X (nI aa)) 27 X (nI ii))) (z 21 (by decide)) (fun j h1 h2 => u j (by omega) (by omega)) i)
  · rw [a3] at hc
    by_cases e : c = X
    · subst e
      have dz := hh.2.2.2.1 c (by omega) hX
      have d : ∀ j, 28 ≤ j → j ≤ 37 → up2 (up2 s.2 26 c (nI aa)) 27 c (nI ii) j c = 0 := fun j h1 h2 => by rw [u j (by omega) (by omega)]; exact dz j h1 h2
      have e26 : up2 (up2 s.2 26 c (nI aa)) 27 c (nI ii) 26 c = nI aa := by simp [up2]
      have e27 : up2 (up2 s.2 26 c (nI aa)) 27 c (nI ii) 27 c = nI ii := by simp [up2]
      have c1 : rCn ((upd s.1 34 (nI (c + 1)), up2 (up2 s.2 26 c (nI aa)) 27 c (nI ii)) : rS) c = aa / 8 := by
        unfold rCn
        dsimp only
        rw [e26, nI_clamp (by omega)]
      have c2 : rSv ((upd s.1 34 (nI (c + 1)), up2 (up2 s.2 26 c (nI aa)) 27 c (nI ii)) : rS) c = ii := by
        unfold rSv
        dsimp only
        rw [e27, nI_clamp (by omega)]
      unfold cC1
      rw [kX, c1, c2]
      dsimp only
      rw [d 28 (by decide) (by decide), d 29 (by decide) (by decide), d 30 (by decide) (by decide), d 31 (by decide) (by decide), d 32 (by decide) (by decide), d 33 (by decide) (by decide), d 34 (by decide) (by decide), d 35 (by decide) (by decide), d 36 (by decide) (by decide), d 37 (by decide) (by decide)]
      exact ⟨⟨rfl, rfl, aX, by omega⟩, ⟨rfl, rfl, show (-1 : Int32) = 0 - 1 by decide, rfl, rfl, rfl, rfl, rfl, rfl, rfl⟩, Or.inl rfl, fun _ => ⟨0, by decide, rfl⟩, ⟨0, by decide, rfl⟩, ⟨0, by decide, rfl⟩⟩
    · have := (se c (by omega)).cg (v' := v') (s' := (upd s.1 34 (nI (X + 1)), up2 (up2 s.2 26 X (nI aa)) 27 X (nI ii))) (k22 c (by omega)) (fun j _ _ => uo j c e)
      unfold cC1 at this ⊢
      rw [a10 c (by omega)]
      exact this
theorem cH.opn {A A' : cA} {s : rS} {X aa ii : Nat} (hh : cH A s) (eX : A 2 3 = X) (ha : aa < 64) (a0 : A' 2 0 = A 2 0) (a2 : A' 2 2 = A 2 2) (a3 : A' 2 3 = X + 1) (a10 : ∀ c, c < X → A' 10 c = A 10 c) (aX : A' 10 X = ii) : cH A' (upd s.1 34 (nI (X + 1)), up2 (up2 s.2 26 X (nI aa)) 27 X (nI ii)) := by
  have u : ∀ j, j ≠ 26 → j ≠ 27 → up2 (up2 s.2 26 X (nI aa)) 27 X (nI ii) j = s.2 j := fun j x y => by rw [up2_n y, up2_n x]
  obtain ⟨h1, h2, h3, h4, h5⟩ := hh
  unfold cH
  rw [a0, a2, a3]
  dsimp only
  refine ⟨fun k hk => ?_, fun i hi => ?_, fun c hc => ?_, fun c a b j j1 j2 => ?_, fun i a b => ?_⟩
  · dsimp only
    rw [u 7 (by decide) (by decide), u 8 (by decide) (by decide)]; exact h1 k hk
  · rw [u 16 (by decide) (by decide)]; exact h2 i hi
  · by_cases e : c = X
    · subst e
      exact ⟨aa, ha, by simp [up2], by rw [aX]; simp [up2]⟩
    · rw [a10 c (by omega)]
      obtain ⟨x, hx, e1, e2⟩ := h3 c (by omega)
      exact ⟨x, hx, by simpa [up2, e] using e1, by simpa [up2, e] using e2⟩
  · rw [u j (by omega) (by omega)]; exact h4 c (by omega) b j j1 j2
  · rw [u 17 (by decide) (by decide), u 18 (by decide) (by decide), u 19 (by decide) (by decide), u 20 (by decide) (by decide)]; exact h5 i a b
/-- names when the class has grown, no name is new -/
theorem cNm.gr {nx nx' : Nat} {M M' : xM} {A A' : cA} {s s' : rS} (h : cNm nx M A s) (hn : nx ≤ nx') (f : ∀ q, q < nx → ¬ ccl A q → M' q = M q) (b : ∀ q, q < nx → ccl A' q → ccl A q) (a7 : ∀ t, nlv A t → A' 7 t = A 7 t ∧ A' 8 t = A 8 t) (e2 : ∀ t, nlv A t → ∀ k, k < 32 → s'.2 2 (32 * t + k) = s.2 2 (32 * t + k)) (e3 : ∀ t, nlv A t → s'.2 3 t = s.2 3 t) (l32 : ∀ t, nlv A t → rLn s t ≤ 32) : ∀ t, nlv A t → ∃ g, jS M' (A' 7 t) (A' 8 t) (rLn s' t) g ∧ tW g s' t ∧ ¬ ccl A' (A' 7 t) ∧ ¬ ccl A' (A' 8 t) ∧ A' 7 t < nx' ∧ A' 8 t < nx' := by
  intro t ht
  obtain ⟨g, j, w, n1, n2, l1, l2⟩ := h t ht
  have en : rLn s' t = rLn s t := by unfold rLn; rw [e3 t ht]
  have := l32 t ht
  rw [(a7 t ht).1, (a7 t ht).2, en]
  refine ⟨g, j.mv (f _ l1 n1) (f _ l2 n2), fun k hk => ?_, fun z => n1 (b _ l1 z), fun z => n2 (b _ l2 z), by omega, by omega⟩
  rw [en] at hk
  rw [w k hk, e2 t ht k (by omega)]
