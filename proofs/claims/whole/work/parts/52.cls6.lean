/-! the services against the reference -/
/-- the list of service i -/
def cL (v : cV) (s : rS) (i : Nat) : Prop := ∃ L, L ≤ 8 ∧ s.2 20 i = nI L ∧ (∃ σ, lRl σ (fun k => v 11 (8 * i + k)) (fun j e => s.2 j (8 * i + e)) L) ∧ ∃ T, T < 2 ^ 30 ∧ s.1 21 = nI T ∧ ∀ e, e < L → ∃ a, a ≤ T ∧ s.2 24 (8 * i + e) = nI a
def cS1 (v : cV) (s : rS) (i : Nat) : Prop := v 19 i 0 = nI (rHm s i) ∧ rHm s i < 8 ∧ v 19 i 3 = s.2 17 i ∧ (s.2 17 i = 0 ∨ s.2 17 i = 1) ∧ v 19 i 5 = s.2 19 i ∧ (∀ k, k < 4 → v 20 i k = s.2 18 (4 * i + k)) ∧ cL v s i
/-- released: old ones are no more used -/
def cOld (s : rS) (t : Int32) : Prop := t ≤ s.1 21 - s.1 2
theorem old_iff {T q a : Nat} (hT : T < 2 ^ 30) (hq : q ≤ 16) (h1 : 1 ≤ q) (ha : a ≤ T) : (nI a ≤ nI T - nI q) ↔ ¬ nI T - nI a < nI q := by
  rw [nI_subn T a ha, nI_lti (by omega) (by omega)]
  by_cases c : q ≤ T
  · rw [nI_subn T q c, nI_lei (by omega) (by omega)]
    omega
  · have e : nI T - nI q = -nI (q - T) := by
      have := nI_subn q T (by omega)
      rw [← this, Int32.neg_sub]
    have n0 : ¬ nI a ≤ nI T - nI q := by
      rw [e, Int32.le_iff_toInt_le, nI_toInt (by omega)]
      have : (-nI (q - T)).toInt = -((q - T : Nat) : Int) := by
        rw [Int32.toInt_neg, nI_toInt (by omega)]
        apply Int.bmod_eq_of_le <;> omega
      rw [this]
      omega
    exact ⟨fun z => absurd z n0, fun z => by omega⟩
/-- a place after the release -/
def cRl (s : rS) (g : Nat → Int32) : Nat → Int32 := if g 4 ≤ s.1 21 - s.1 2 then w [0, g 1, g 2, g 3, g 4] else g
theorem rStk_o {s : rS} {i e L j q : Nat} (he : e < 8) (h : ¬ (8 * i ≤ q ∧ q < 8 * i + 8)) (hj : j ≠ 20) : (rStk s i e L).2 j q = s.2 j q := by
  unfold rStk
  dsimp only
  rw [up2_off (by omega), up2_off (by omega), up2_off (by omega), up2_off (by omega), up2_n hj]
theorem rStk_n {s : rS} {i e L j : Nat} (h : j < 20 ∨ 24 < j) : (rStk s i e L).2 j = s.2 j := by
  unfold rStk
  dsimp only
  rw [up2_n (by omega), up2_n (by omega), up2_n (by omega), up2_n (by omega), up2_n (by omega)]
theorem rStk_20 {s : rS} {i e L q : Nat} : (rStk s i e L).2 20 q = if q = i then nI L else s.2 20 q := by
  unfold rStk
  dsimp only
  rw [up2_n (by decide), up2_n (by decide), up2_n (by decide), up2_n (by decide), up2_s]
theorem rStk_at {s : rS} {i e L j q : Nat} (h1 : 21 ≤ j) (h2 : j ≤ 24) : (rStk s i e L).2 j (8 * i + q) = if q = e then s.2 j (8 * i + L) else s.2 j (8 * i + q) := by
  unfold rStk
  dsimp only
  by_cases c : q = e
  · subst c
    rw [if_pos rfl]
    obtain rfl | rfl | rfl | rfl : j = 21 ∨ j = 22 ∨ j = 23 ∨ j = 24 := by omega
    all_goals simp [up2]
  · rw [if_neg c, up2_off (by omega), up2_off (by omega), up2_off (by omega), up2_off (by omega), up2_n (by omega)]
/-- outside service i a release changes nothing -/
theorem rRe_o (i : Nat) : ∀ n s, n ≤ 8 → (rRe i n s).1 = s.1 ∧ (∀ j, j < 20 ∨ 24 < j → (rRe i n s).2 j = s.2 j) ∧ (∀ q, q ≠ i → (rRe i n s).2 20 q = s.2 20 q) ∧ ∀ j q, j ≠ 20 → ¬ (8 * i ≤ q ∧ q < 8 * i + 8) → (rRe i n s).2 j q = s.2 j q
  | 0, s, _ => ⟨rfl, fun _ _ => rfl, fun _ _ => rfl, fun _ _ _ _ => rfl⟩
  | n + 1, s, hn => by
    rw [rRe]
    split
    · have a := rRe_o i n (rStk s i n ((s.2 20 i).toNatClampNeg - 1)) (by omega)
      refine ⟨a.1, fun j hj => (a.2.1 j hj).trans (rStk_n hj), fun q hq => ?_, fun j q hj hq => ?_⟩
      · rw [a.2.2.1 q hq, rStk_20, if_neg hq]
      · rw [a.2.2.2 j q hj hq, rStk_o (by omega) hq hj]
    · exact rRe_o i n s (by omega)
/-- the release of a list -/
theorem lRl.rel {i T q : Nat} (hT : T < 2 ^ 30) (hq : q ≤ 16) (h1 : 1 ≤ q) : ∀ n s σ G L, n ≤ 8 → s.1 21 = nI T → s.1 2 = nI q → L ≤ 8 → s.2 20 i = nI L → lRl σ G (fun j e => s.2 j (8 * i + e)) L → (∀ e, e < L → ∃ a, a ≤ T ∧ s.2 24 (8 * i + e) = nI a) → (∀ e, n ≤ e → e < L → s.1 21 - s.2 24 (8 * i + e) < s.1 2) →
    ∃ L' σ', L' ≤ 8 ∧ (rRe i n s).2 20 i = nI L' ∧ lRl σ' (fun k => cRl s (G k)) (fun j e => (rRe i n s).2 j (8 * i + e)) L' ∧ ∀ e, e < L' → ∃ a, a ≤ T ∧ (rRe i n s).2 24 (8 * i + e) = nI a := by
  intro n
  induction n with
  | zero =>
    intro s σ G L _ h21 h2 hL h20 hl ht ho
    refine ⟨L, σ, hL, h20, ⟨fun e he => ?_, hl.2.1, fun k hk => ?_, hl.2.2.2⟩, ht⟩
    · have a := hl.1 e he
      obtain ⟨b, hb, eb⟩ := ht e he
      have o := ho e (by omega) he
      have no : ¬ G (σ e) 4 ≤ s.1 21 - s.1 2 := by
        rw [a.2.2.2.2.2]
        dsimp only
        rw [eb] at o ⊢
        rw [h21, h2] at o ⊢
        exact fun z => (old_iff hT hq h1 hb).mp z o
      dsimp only [cRl]
      rw [if_neg no]
      exact a
    · dsimp only [cRl]
      split
      · left; rfl
      · exact hl.2.2.1 k hk
  | succ n ih =>
    intro s σ G L hn h21 h2 hL h20 hl ht ho
    rw [rRe]
    by_cases c : nI n < s.2 20 i ∧ ¬ s.1 21 - s.2 24 (8 * i + n) < s.1 2
    · rw [if_pos c]
      have nL : n < L := by
        have := c.1
        rw [h20, nI_lti (by omega) (by omega)] at this
        exact this
      obtain ⟨L', rfl⟩ : ∃ L', L = L' + 1 := ⟨L - 1, by omega⟩
      rw [h20, nI_clamp (show L' + 1 < 2 ^ 31 by omega), Nat.add_sub_cancel]
      have an := hl.1 n nL
      have hdel := hl.del (G' := fun k => if k = σ n then w [0, G k 1, G k 2, G k 3, G k 4] else G k) (D' := fun j e => (rStk s i n L').2 j (8 * i + e)) nL (by rw [if_pos rfl]; rfl) (fun k _ hk => by rw [if_neg hk]) (fun j q' h1 h2 _ => rStk_at h1 h2)
      have r := ih (rStk s i n L') _ _ L' (by omega) h21 h2 (by omega) (by rw [rStk_20, if_pos rfl]) hdel (fun e he => ?_) (fun e h3 h4 => ?_)
      · obtain ⟨L2, σ2, g1, g2, g3, g4⟩ := r
        refine ⟨L2, σ2, g1, g2, g3.cg (fun k _ => ?_) (fun _ _ _ _ _ => rfl), g4⟩
        by_cases e : k = σ n
        · rw [if_pos e]
          obtain ⟨b, hb, eb⟩ := ht n nL
          have yes : G k 4 ≤ s.1 21 - s.1 2 := by
            rw [e, an.2.2.2.2.2]
            dsimp only
            have o := c.2
            rw [eb] at o ⊢
            rw [h21, h2] at o ⊢
            exact (old_iff hT hq h1 hb).mpr o
          have yes2 : w [0, G k 1, G k 2, G k 3, G k 4] 4 ≤ (rStk s i n L').1 21 - (rStk s i n L').1 2 := yes
          unfold cRl
          rw [if_pos yes, if_pos yes2]
          rfl
        · rw [if_neg e]
          rfl
      · rw [rStk_at (by decide) (by decide)]
        split
        · exact ht L' (by omega)
        · exact ht e (by omega)
      · show s.1 21 - (rStk s i n L').2 24 (8 * i + e) < s.1 2
        rw [rStk_at (by decide) (by decide)]
        split
        · next z => exact ho L' (by omega) (by omega)
        · exact ho e (by omega) (by omega)
    · rw [if_neg c]
      refine ih s σ G L (by omega) h21 h2 hL h20 hl ht (fun e h3 h4 => ?_)
      by_cases e0 : e = n
      · subst e0
        by_cases z : s.1 21 - s.2 24 (8 * i + e) < s.1 2
        · exact z
        · exact absurd ⟨by rw [h20, nI_lti (by omega) (by omega)]; exact h4, z⟩ c
      · exact ho e (by omega) h4
