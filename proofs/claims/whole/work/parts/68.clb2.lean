/-! the class grows -/
def uA (A : cA) (g i x : Nat) : cA := fun g' i' => if g' = g ∧ i' = i then x else A g' i'
theorem uA_s (A : cA) (g i x : Nat) : uA A g i x g i = x := by simp [uA]
theorem uA_n {A : cA} {g i x g' i' : Nat} (h : ¬ (g' = g ∧ i' = i)) : uA A g i x g' i' = A g' i' := by simp only [uA]; rw [if_neg h]
theorem uA_k {A : cA} {g i x g' i' : Nat} (h : g' ≠ g) : uA A g i x g' i' = A g' i' := uA_n (fun z => h z.1)
/-- A' has all that A has -/
def aEx (A A' : cA) : Prop := (A' 0 0 = A 0 0 ∧ A' 1 0 = A 1 0 ∧ A' 1 1 = A 1 1) ∧ (∀ i, i < A 2 0 → A' 3 i = A 3 i ∧ A' 7 i = A 7 i) ∧ (∀ i, i < A 2 1 → A' 4 i = A 4 i) ∧ (∀ i, i < A 2 2 → A' 5 i = A 5 i ∧ A' 7 (8 + i) = A 7 (8 + i) ∧ A' 7 (24 + i) = A 7 (24 + i)) ∧ ∀ i, i < A 2 3 → A' 6 i = A 6 i ∧ A' 10 i = A 10 i
def cl (A : cA) (kd : Nat) : Nat := match kd with
  | 10 => 8 * A 2 1
  | 11 => 8 * A 2 2
  | 12 => A 2 0
  | 13 => A 2 0
  | 14 => A 2 1
  | 15 => A 2 1
  | 16 => A 2 1
  | 17 => A 2 1
  | 18 => A 2 1
  | 19 => A 2 2
  | 20 => A 2 2
  | 21 => A 2 2
  | 22 => A 2 3
  | kd => if kd ≤ 24 then 1 else 0
theorem clv_d {A : cA} {kd i : Nat} (h : ¬ (10 ≤ kd ∧ kd ≤ 22)) : clv A kd i ↔ (i = 0 ∧ kd ≤ 24) := by
  unfold clv
  split <;> first | exact absurd ⟨by decide, by decide⟩ h | exact Iff.rfl
theorem cl_d {A : cA} {kd : Nat} (h : ¬ (10 ≤ kd ∧ kd ≤ 22)) : cl A kd = if kd ≤ 24 then 1 else 0 := by
  unfold cl
  split <;> first | exact absurd ⟨by decide, by decide⟩ h | rfl
theorem clv_i (A : cA) (kd i : Nat) : clv A kd i ↔ i < cl A kd := by
  by_cases h : 10 ≤ kd ∧ kd ≤ 22
  · obtain rfl | rfl | rfl | rfl | rfl | rfl | rfl | rfl | rfl | rfl | rfl | rfl | rfl : kd = 10 ∨ kd = 11 ∨ kd = 12 ∨ kd = 13 ∨ kd = 14 ∨ kd = 15 ∨ kd = 16 ∨ kd = 17 ∨ kd = 18 ∨ kd = 19 ∨ kd = 20 ∨ kd = 21 ∨ kd = 22 := by omega
    all_goals exact Iff.rfl
  · rw [clv_d h, cl_d h]
    split
    · next z => omega
    · next z => omega
theorem aEx.ad {A A' : cA} (x : aEx A A') {kd i : Nat} (h : clv A kd i) : cad A' kd i = cad A kd i := by
  obtain ⟨⟨x0, x1, x2⟩, x3, x4, x5, x6⟩ := x
  unfold clv at h
  unfold cad
  split <;> simp only [] at h <;> first
    | rw [x0]
    | rw [x1]
    | rw [x4 _ (by omega)]
    | rw [(x5 _ (by omega)).1]
    | rw [(x3 _ h).1]
    | rw [(x6 _ h).1]
theorem aEx.ct {A A' : cA} (x : aEx A A') (hs : ∀ c, c < A 2 3 → A 10 c < A 2 2) {kd i : Nat} {g : Nat → Int32} (h : clv A kd i) (k5 : kd = 5 → A' 2 0 = A 2 0) (k6 : kd = 6 → A' 2 1 = A 2 1) (k7 : kd = 7 → A' 2 2 = A 2 2) (k8 : kd = 8 → A' 2 3 = A 2 3) : cct A' kd i g = cct A kd i g := by
  obtain ⟨⟨x0, x1, x2⟩, x3, x4, x5, x6⟩ := x
  unfold clv at h
  unfold cct
  split <;> simp only [] at h <;> first
    | rfl
    | rw [x0]
    | rw [x1]
    | rw [x2]
    | rw [x4 _ (by omega)]
    | rw [(x3 _ h).1, (x3 _ h).2]
    | rw [(x5 _ h).1, (x5 _ h).2.1, (x5 _ h).2.2]
    | rw [(x5 _ h).1]
    | rw [(x6 _ h).2, (x5 _ (hs _ h)).1]
    | skip
  · rw [k5 rfl]
    congr 3
    funext k
    split
    · next z => rw [(x3 k z).1]
    · rfl
  · rw [k6 rfl]
    congr 3
    funext k
    split
    · next z => rw [x4 k z]
    · rfl
  · rw [k7 rfl]
    congr 3
    funext k
    split
    · next z => rw [(x5 k z).1]
    · rfl
  · rw [k8 rfl]
    congr 3
    funext k
    split
    · next z => rw [(x6 k z).1]
    · rfl
/-- the class has grown: O' names the cells made anew -/
theorem cR.grow {E : xE} {B B' : Nat} {M0 M M' : xM} {A A' : cA} {v v' : cV} {O' : Nat → Nat × Nat} (h : cR E B M0 M A v) (x : aEx A A') (hE : xb E ≤ B) (hB : B ≤ B') (hmono : ∀ kd, cl A kd ≤ cl A' kd) (hnew : ∀ kd i, clv A' kd i → ¬ clv A kd i → M' (cad A' kd i) = some (cct A' kd i (v' kd i)) ∧ B ≤ cad A' kd i ∧ cad A' kd i < B' ∧ O' (cad A' kd i) = (kd, i)) (hold : ∀ kd i, clv A kd i → M' (cad A kd i) = some (cct A' kd i (v' kd i)))
    (c0 : A' 2 0 ≤ 8) (c1 : A' 2 1 ≤ 6) (c2 : A' 2 2 ≤ 16) (c3 : A' 2 3 ≤ 12) (hs : ∀ c, c < A' 2 3 → A' 10 c < A' 2 2) : cR E B' M' M' A' v' := by
  obtain ⟨O, hO⟩ := h.1.1
  refine ⟨⟨⟨fun q => if q < B then O q else O' q, fun kd i hl => ?_⟩, c0, c1, c2, c3, hs⟩, fun kd i hl => ?_, fun _ _ => rfl⟩
  · by_cases z : clv A kd i
    · rw [x.ad z]
      have := hO kd i z
      refine ⟨?_, this.2.1, by omega⟩
      show (if cad A kd i < B then O (cad A kd i) else O' (cad A kd i)) = _
      rw [if_pos this.2.2]
      exact this.1
    · obtain ⟨_, n2, n3, n4⟩ := hnew kd i hl z
      refine ⟨?_, by omega, n3⟩
      show (if cad A' kd i < B then O (cad A' kd i) else O' (cad A' kd i)) = _
      rw [if_neg (by omega)]
      exact n4
  · by_cases z : clv A kd i
    · rw [x.ad z]
      exact hold kd i z
    · exact (hnew kd i hl z).1
