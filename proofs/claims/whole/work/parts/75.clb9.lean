/-! a router added -/
def A34 (A : cA) (nx : Nat) : cA := uA (uA A 2 1 (A 2 1 + 1)) 4 (A 2 1) nx
theorem A34_v (A : cA) (nx : Nat) : A34 A nx 0 0 = A 0 0 ∧ A34 A nx 2 0 = A 2 0 ∧ A34 A nx 2 1 = A 2 1 + 1 ∧ A34 A nx 2 2 = A 2 2 ∧ A34 A nx 2 3 = A 2 3 ∧ (∀ r, r ≠ A 2 1 → A34 A nx 4 r = A 4 r) ∧ A34 A nx 4 (A 2 1) = nx ∧ ∀ g i, g ≠ 2 → g ≠ 4 → A34 A nx g i = A g i := by
  unfold A34
  refine ⟨by simp [uA], by simp [uA], by simp [uA], by simp [uA], by simp [uA], fun c hc => by simp [uA, hc], by simp [uA], fun g i a b => by simp [uA, a, b]⟩
def vRt (v : cV) (R : Nat) (mask pc : Int32) : cV := fun kd i => if kd = 10 ∧ 8 * R ≤ i ∧ i < 8 * R + 8 then zE else if kd = 14 ∧ i = R then w [0, pc, 0] else if kd = 15 ∧ i = R then (fun j => if j < 8 ∧ rBit mask j = true then 1 else 0) else if (kd = 17 ∨ kd = 18) ∧ i = R then zE else v kd i
theorem cl_nr {A A' : cA} {kd : Nat} (h0 : A' 2 0 = A 2 0) (h2 : A' 2 2 = A 2 2) (h3 : A' 2 3 = A 2 3) (h10 : kd ≠ 10) (h14 : ¬ (14 ≤ kd ∧ kd ≤ 18)) : cl A' kd = cl A kd := by
  unfold cl
  split <;> first | rw [h0] | rw [h2] | rw [h3] | rfl | exact absurd rfl h10 | exact absurd ⟨by decide, by decide⟩ h14
theorem gr34 {E : xE} {nx : Nat} {M1 M2 : xM} {A : cA} {v : cV} {mask pc : Int32} (h : cR E nx M2 M2 A v) (hE : xb E ≤ nx) (hR : A 2 1 < 6) (hp : rtP M1 M2 nx mask pc 8) :
    cR E (nx + 13) (xput M2 (A 0 0 + 5) (.inr (5, 6, updV (fun k => if k < A 2 1 then .ref (A 4 k) else .null) (A 2 1) (.ref nx)))) (xput M2 (A 0 0 + 5) (.inr (5, 6, updV (fun k => if k < A 2 1 then .ref (A 4 k) else .null) (A 2 1) (.ref nx)))) (A34 A nx) (vRt v (A 2 1) mask pc) ∧ ∀ q, q < nx → ccl (A34 A nx) q → ccl A q := by
  obtain ⟨b0, b20, b21, b22, b23, b4, b4R, bo⟩ := A34_v A nx
  obtain ⟨p0, p1, p2, p3, p4, p5, p6⟩ := hp
  have l6 : clv A 6 0 := ⟨rfl, by decide⟩
  have lt6 : A 0 0 + 5 < nx := h.1.hi l6
  have x : aEx A (A34 A nx) := ⟨⟨b0, bo 1 0 (by decide) (by decide), bo 1 1 (by decide) (by decide)⟩, fun i _ => ⟨bo 3 i (by decide) (by decide), bo 7 i (by decide) (by decide)⟩, fun i hi => b4 i (by omega), fun i _ => ⟨bo 5 i (by decide) (by decide), bo 7 _ (by decide) (by decide), bo 7 _ (by decide) (by decide)⟩, fun i hi' => ⟨bo 6 i (by decide) (by decide), bo 10 i (by decide) (by decide)⟩⟩
  have newc : ∀ kd i, clv (A34 A nx) kd i → ¬ clv A kd i → (kd = 10 ∧ ∃ k, k < 8 ∧ i = 8 * A 2 1 + k) ∨ ((kd = 14 ∨ kd = 15 ∨ kd = 16 ∨ kd = 17 ∨ kd = 18) ∧ i = A 2 1) := by
    intro kd i h1 h2
    by_cases e : kd = 10
    · subst e
      have h1' : i < 8 * A34 A nx 2 1 := h1
      have h2' : ¬ i < 8 * A 2 1 := h2
      exact Or.inl ⟨rfl, i - 8 * A 2 1, by omega, by omega⟩
    · by_cases e2 : 14 ≤ kd ∧ kd ≤ 18
      · obtain rfl | rfl | rfl | rfl | rfl : kd = 14 ∨ kd = 15 ∨ kd = 16 ∨ kd = 17 ∨ kd = 18 := by omega
        all_goals
          have h1' : i < A34 A nx 2 1 := h1
          have h2' : ¬ i < A 2 1 := h2
          exact Or.inr ⟨by omega, by omega⟩
      · rw [clv_i, cl_nr b20 b22 b23 e e2, ← clv_i] at h1
        exact absurd h1 h2
  have ad10 : ∀ k, k < 8 → cad (A34 A nx) 10 (8 * A 2 1 + k) = nx + (5 + k) := fun k hk => by rw [cad10 _ hk, b4R]
  have adr : ∀ q, q ≠ A 0 0 + 5 → xput M2 (A 0 0 + 5) (.inr (5, 6, updV (fun k => if k < A 2 1 then .ref (A 4 k) else .null) (A 2 1) (.ref nx))) q = M2 q := fun q hq => xput_ne hq
  refine ⟨h.grow (O' := fun q => if q = nx then (14, A 2 1) else if q = nx + 1 then (15, A 2 1) else if q = nx + 2 then (16, A 2 1) else if q = nx + 3 then (17, A 2 1) else if q = nx + 4 then (18, A 2 1) else (10, 8 * A 2 1 + (q - (nx + 5)))) x hE (by omega) (fun kd => ?_) (fun kd i h1 h2 => ?_) (fun kd i hl => ?_) (by rw [b20]; exact h.1.2.1) (by rw [b21]; omega) (by rw [b22]; exact h.1.2.2.2.1) (by rw [b23]; exact h.1.2.2.2.2.1) (fun c hc => ?_), fun q hq hc => ?_⟩
  · by_cases e : kd = 10
    · subst e
      show 8 * A 2 1 ≤ 8 * A34 A nx 2 1
      omega
    · by_cases e2 : 14 ≤ kd ∧ kd ≤ 18
      · obtain rfl | rfl | rfl | rfl | rfl : kd = 14 ∨ kd = 15 ∨ kd = 16 ∨ kd = 17 ∨ kd = 18 := by omega
        all_goals
          show A 2 1 ≤ A34 A nx 2 1
          omega
      · rw [cl_nr b20 b22 b23 e e2]
        exact Nat.le_refl _
  · rcases newc kd i h1 h2 with ⟨rfl, k, hk, rfl⟩ | ⟨hkd, rfl⟩
    · rw [ad10 k hk, adr _ (by omega), p5 k hk]
      refine ⟨?_, by omega, by omega, ?_⟩
      · have : vRt v (A 2 1) mask pc 10 (8 * A 2 1 + k) = zE := by unfold vRt; rw [if_pos ⟨rfl, by omega, by omega⟩]
        rw [this]
        rfl
      · show (if _ then _ else _) = _
        rw [if_neg (by omega), if_neg (by omega), if_neg (by omega), if_neg (by omega), if_neg (by omega)]
        congr 2
        omega
    · rcases hkd with rfl | rfl | rfl | rfl | rfl
      · have ea : cad (A34 A nx) 14 (A 2 1) = nx := b4R
        rw [ea, adr _ (by omega), p0]
        refine ⟨?_, by omega, by omega, by simp⟩
        have : vRt v (A 2 1) mask pc 14 (A 2 1) = w [0, pc, 0] := by unfold vRt; simp
        rw [this]
        show _ = some (Sum.inl (6, [Value.ref (A34 A nx 4 (A 2 1) + 1), .int pc, .int 0, .ref (A34 A nx 4 (A 2 1) + 2), .ref (A34 A nx 4 (A 2 1) + 3), .ref (A34 A nx 4 (A 2 1) + 4)]))
        rw [b4R]
      · have ea : cad (A34 A nx) 15 (A 2 1) = nx + 1 := by show A34 A nx 4 (A 2 1) + 1 = _; rw [b4R]
        rw [ea, adr _ (by omega), p1]
        refine ⟨?_, by omega, by omega, by simp⟩
        have : vRt v (A 2 1) mask pc 15 (A 2 1) = fun j => if j < 8 ∧ rBit mask j = true then 1 else 0 := by unfold vRt; simp
        rw [this]
        rfl
      · have ea : cad (A34 A nx) 16 (A 2 1) = nx + 2 := by show A34 A nx 4 (A 2 1) + 2 = _; rw [b4R]
        rw [ea, adr _ (by omega), p2]
        refine ⟨?_, by omega, by omega, by simp⟩
        show _ = some (Sum.inr (8, 8, fun k => if k < 8 then Value.ref (A34 A nx 4 (A 2 1) + (5 + k)) else .null))
        rw [b4R]
      · have ea : cad (A34 A nx) 17 (A 2 1) = nx + 3 := by show A34 A nx 4 (A 2 1) + 3 = _; rw [b4R]
        rw [ea, adr _ (by omega), p3]
        refine ⟨?_, by omega, by omega, by simp⟩
        have : vRt v (A 2 1) mask pc 17 (A 2 1) = zE := by unfold vRt; simp
        rw [this]
        rfl
      · have ea : cad (A34 A nx) 18 (A 2 1) = nx + 4 := by show A34 A nx 4 (A 2 1) + 4 = _; rw [b4R]
        rw [ea, adr _ (by omega), p4]
        refine ⟨?_, by omega, by omega, by simp⟩
        have : vRt v (A 2 1) mask pc 18 (A 2 1) = zE := by unfold vRt; simp
        rw [this]
        rfl
  · by_cases e : kd = 6 ∧ i = 0
    · obtain ⟨rfl, rfl⟩ := e
      have : xput M2 (A 0 0 + 5) (.inr (5, 6, updV (fun k => if k < A 2 1 then .ref (A 4 k) else .null) (A 2 1) (.ref nx))) (cad A 6 0) = some (.inr (5, 6, updV (fun k => if k < A 2 1 then .ref (A 4 k) else .null) (A 2 1) (.ref nx))) := xput_same _ _ _
      rw [this]
      show _ = some (Sum.inr (5, 6, fun k => if k < A34 A nx 2 1 then Value.ref (A34 A nx 4 k) else .null))
      congr 4
      funext k
      unfold updV
      rw [b21]
      by_cases z : k = A 2 1
      · rw [if_pos z, if_pos (by omega), z, b4R]
      · rw [if_neg z, b4 k z]
        dsimp only
        by_cases y : k < A 2 1
        · rw [if_pos y, if_pos (by omega)]
        · rw [if_neg y, if_neg (by omega)]
    · have ne : cad A kd i ≠ A 0 0 + 5 := fun z => e (h.1.apart hl l6 z)
      have n6 : kd ≠ 6 := fun z => e ⟨z, by subst z; exact hl.1⟩
      rw [adr _ ne, h.2.1 kd i hl]
      have ev : vRt v (A 2 1) mask pc kd i = v kd i := by
        unfold vRt
        rw [if_neg, if_neg, if_neg, if_neg]
        · rintro ⟨rfl | rfl, rfl⟩
          · exact absurd hl (Nat.lt_irrefl _)
          · exact absurd hl (Nat.lt_irrefl _)
        · rintro ⟨rfl, rfl⟩
          exact absurd hl (Nat.lt_irrefl _)
        · rintro ⟨rfl, rfl⟩
          exact absurd hl (Nat.lt_irrefl _)
        · rintro ⟨rfl, z, _⟩
          have : i < 8 * A 2 1 := hl
          omega
      rw [ev, x.ct h.1.2.2.2.2.2 hl (fun _ => b20) (fun z => absurd z n6) (fun _ => b22) (fun _ => b23)]
  · rw [b23] at hc
    rw [b22, bo 10 c (by decide) (by decide)]
    exact h.1.2.2.2.2.2 c hc
  · obtain ⟨kd, i, hl, e⟩ := hc
    by_cases z : clv A kd i
    · exact ⟨kd, i, z, by rw [← x.ad z]; exact e⟩
    · exfalso
      rcases newc kd i hl z with ⟨rfl, k, hk, rfl⟩ | ⟨hkd, rfl⟩
      · rw [ad10 k hk] at e
        omega
      · have e0 : A34 A nx 4 (A 2 1) = nx := b4R
        rcases hkd with rfl | rfl | rfl | rfl | rfl
        · have : A34 A nx 4 (A 2 1) = q := e
          omega
        · have : A34 A nx 4 (A 2 1) + 1 = q := e
          omega
        · have : A34 A nx 4 (A 2 1) + 2 = q := e
          omega
        · have : A34 A nx 4 (A 2 1) + 3 = q := e
          omega
        · have : A34 A nx 4 (A 2 1) + 4 = q := e
          omega
/-- the mesh with a router that is off -/
theorem cM.nr {A A' : cA} {v v' : cV} {s : rS} {m : Nat} (h : cM A v s) (hR : A 2 1 < 6) (hN : A 2 0 ≤ 8) (hm : m < 2 ^ A 2 0) (a0 : A' 2 0 = A 2 0) (a1 : A' 2 1 = A 2 1 + 1) (k4 : v' 4 0 1 = v 4 0 1 ∧ v' 4 0 3 = nI (A 2 1 + 1)) (k14 : ∀ r, r < A 2 1 → v' 14 r = v 14 r ∧ v' 15 r = v 15 r) (k14R : v' 14 (A 2 1) 1 = nI (cnt (rBit (nI m)) 8) ∧ v' 14 (A 2 1) 2 = 0) (k15R : ∀ k, k < 8 → v' 15 (A 2 1) k = if rBit (nI m) k = true then 1 else 0) (k10 : ∀ i, i < 8 * A 2 1 → v' 10 i = v 10 i) (k10R : ∀ n, n < 8 → v' 10 (8 * A 2 1 + n) 0 = 0 ∧ v' 10 (8 * A 2 1 + n) 5 = 0) :
    cM A' v' (upd s.1 9 (nI (A 2 1 + 1)), up2 (up2 s.2 5 (A 2 1) (nI m)) 6 (A 2 1) 0) := by
  obtain ⟨m1, m2, m3, m4⟩ := h
  have u : ∀ j, j ≠ 5 → j ≠ 6 → up2 (up2 s.2 5 (A 2 1) (nI m)) 6 (A 2 1) 0 j = s.2 j := fun j x y => by rw [up2_n y, up2_n x]
  have u5 : ∀ r, r ≠ A 2 1 → up2 (up2 s.2 5 (A 2 1) (nI m)) 6 (A 2 1) 0 5 r = s.2 5 r := fun r hr => by simp [up2, hr]
  have u5R : up2 (up2 s.2 5 (A 2 1) (nI m)) 6 (A 2 1) 0 5 (A 2 1) = nI m := by simp [up2]
  have u6 : ∀ r, r ≠ A 2 1 → up2 (up2 s.2 5 (A 2 1) (nI m)) 6 (A 2 1) 0 6 r = s.2 6 r := fun r hr => by simp [up2, hr]
  have u6R : up2 (up2 s.2 5 (A 2 1) (nI m)) 6 (A 2 1) 0 6 (A 2 1) = 0 := by simp [up2]
  have hh : ∀ r, r ≠ A 2 1 → ∀ k, rHas ((upd s.1 9 (nI (A 2 1 + 1)), up2 (up2 s.2 5 (A 2 1) (nI m)) 6 (A 2 1) 0) : rS) r k = rHas s r k := fun r hr k => by simp only [rHas, u5 r hr]
  have hhR : ∀ k, rHas ((upd s.1 9 (nI (A 2 1 + 1)), up2 (up2 s.2 5 (A 2 1) (nI m)) 6 (A 2 1) 0) : rS) (A 2 1) k = rBit (nI m) k := fun k => by simp only [rHas, rBit, u5R]
  have z : ∀ f, f ≠ 9 → upd s.1 9 (nI (A 2 1 + 1)) f = s.1 f := fun f hf => by simp [upd, hf]
  unfold cM
  rw [a0, a1]
  refine ⟨⟨by rw [k4.1]; exact m1.1, k4.2, by dsimp only; rw [z 7 (by decide)]; exact m1.2.2.1, by simp [upd]⟩, fun r hr => ?_, fun r k hr hk => ?_, m4.R hR u5 u6 u6R (fun j h1 h2 => u j (by omega) (by omega)) (fun n hn g => rBit_hi (A 2 0) (by omega) m hm n hn (by rw [← hhR]; exact g))⟩
  · by_cases e : r = A 2 1
    · subst e
      refine ⟨by rw [k14R.2]; exact u6R.symm, ?_, fun k hk => by rw [k15R k hk, hhR]⟩
      rw [k14R.1]
      unfold rPc
      rw [cnt_cg 8 (fun k _ => hhR k)]
    · rw [(k14 r (by omega)).1, (k14 r (by omega)).2]
      refine ⟨by dsimp only; rw [u6 r e]; exact (m2 r (by omega)).1, ?_, fun k hk => by rw [hh r e]; exact (m2 r (by omega)).2.2 k hk⟩
      rw [(m2 r (by omega)).2.1]
      unfold rPc
      rw [cnt_cg 8 (fun k _ => hh r e k)]
  · by_cases e : r = A 2 1
    · subst e
      have f : s.2 7 (8 * A 2 1 + k) < 0 := by
        by_cases f : s.2 7 (8 * A 2 1 + k) < 0
        · exact f
        · have := (m4.at (by omega) hk f).1
          omega
      simp only [cE, u 7 (by decide) (by decide), (k10R k hk).1, (k10R k hk).2]
      refine ⟨by rw [if_pos f], fun y => absurd f y, by rw [if_neg (fun y => y.1 f)]⟩
    · rw [k10 _ (by omega)]
      exact (m3 r k (by omega) hk).sm (fun j h1 h2 => by dsimp only; rw [u j (by omega) (by omega)])
