/-! a service added -/
def A8 (A : cA) (nx o op ty tp : Nat) : cA := uA (uA (uA (uA (uA (uA A 2 2 (A 2 2 + 1)) 5 (A 2 2) nx) 7 (8 + A 2 2) o) 8 (8 + A 2 2) op) 7 (24 + A 2 2) ty) 8 (24 + A 2 2) tp
theorem A8_v (A : cA) (nx o op ty tp : Nat) : A8 A nx o op ty tp 0 0 = A 0 0 ∧ A8 A nx o op ty tp 2 0 = A 2 0 ∧ A8 A nx o op ty tp 2 1 = A 2 1 ∧ A8 A nx o op ty tp 2 2 = A 2 2 + 1 ∧ A8 A nx o op ty tp 2 3 = A 2 3 ∧ (∀ i, i ≠ A 2 2 → A8 A nx o op ty tp 5 i = A 5 i) ∧ A8 A nx o op ty tp 5 (A 2 2) = nx ∧ (∀ g i, i ≠ 8 + A 2 2 → i ≠ 24 + A 2 2 → g = 7 ∨ g = 8 → A8 A nx o op ty tp g i = A g i) ∧ (A8 A nx o op ty tp 7 (8 + A 2 2) = o ∧ A8 A nx o op ty tp 8 (8 + A 2 2) = op ∧ A8 A nx o op ty tp 7 (24 + A 2 2) = ty ∧ A8 A nx o op ty tp 8 (24 + A 2 2) = tp) ∧ ∀ g i, g ≠ 2 → g ≠ 5 → g ≠ 7 → g ≠ 8 → A8 A nx o op ty tp g i = A g i := by
  unfold A8
  refine ⟨by simp [uA], by simp [uA], by simp [uA], by simp [uA], by simp [uA], fun i a => by simp [uA, a], by simp [uA], fun g i a b c => ?_, ⟨?_, ?_, by simp [uA], by simp [uA]⟩, fun g i a b c d => by simp [uA, a, b, c, d]⟩
  · rcases c with rfl | rfl <;> simp [uA, a, b]
  · simp [uA]
  · simp [uA]
def vSv (v : cV) (S : Nat) (net : Int32) : cV := fun kd i => if kd = 11 ∧ 8 * S ≤ i ∧ i < 8 * S + 8 then zE else if kd = 19 ∧ i = S then w [net, 0, 0, 0, 0, 0] else if kd = 20 ∧ i = S then zE else v kd i
theorem cl_ns {A A' : cA} {kd : Nat} (h0 : A' 2 0 = A 2 0) (h1 : A' 2 1 = A 2 1) (h3 : A' 2 3 = A 2 3) (h11 : kd ≠ 11) (h19 : ¬ (19 ≤ kd ∧ kd ≤ 21)) : cl A' kd = cl A kd := by
  unfold cl
  split <;> first | rw [h0] | rw [h1] | rw [h3] | rfl | exact absurd rfl h11 | exact absurd ⟨by decide, by decide⟩ h19
theorem gr8 {E : xE} {nx o op ty tp : Nat} {M1 M2 : xM} {A : cA} {v : cV} {net : Int32} (h : cR E nx M2 M2 A v) (hE : xb E ≤ nx) (hS : A 2 2 < 16) (hN8 : A 2 0 ≤ 8) (hp : svP M1 M2 nx net o ty 8) :
    cR E (nx + 11) (xput M2 (A 0 0 + 7) (.inr (6, 16, updV (fun k => if k < A 2 2 then .ref (A 5 k) else .null) (A 2 2) (.ref nx)))) (xput M2 (A 0 0 + 7) (.inr (6, 16, updV (fun k => if k < A 2 2 then .ref (A 5 k) else .null) (A 2 2) (.ref nx)))) (A8 A nx o op ty tp) (vSv v (A 2 2) net) ∧ ∀ q, q < nx → ccl (A8 A nx o op ty tp) q → ccl A q := by
  obtain ⟨b0, b20, b21, b22, b23, b5, b5S, b78, ⟨bo7, bo8, bt7, bt8⟩, bo⟩ := A8_v A nx o op ty tp
  obtain ⟨p0, p1, p2, p3, p4⟩ := hp
  have l7 : clv A 7 0 := ⟨rfl, by decide⟩
  have lt7 : A 0 0 + 7 < nx := h.1.hi l7
  have x : aEx A (A8 A nx o op ty tp) := ⟨⟨b0, bo 1 0 (by decide) (by decide) (by decide) (by decide), bo 1 1 (by decide) (by decide) (by decide) (by decide)⟩, fun i hi => ⟨bo 3 i (by decide) (by decide) (by decide) (by decide), b78 7 i (by omega) (by omega) (Or.inl rfl)⟩, fun i _ => bo 4 i (by decide) (by decide) (by decide) (by decide), fun i hi => ⟨b5 i (by omega), b78 7 (8 + i) (by omega) (by omega) (Or.inl rfl), b78 7 (24 + i) (by omega) (by omega) (Or.inl rfl)⟩, fun i _ => ⟨bo 6 i (by decide) (by decide) (by decide) (by decide), bo 10 i (by decide) (by decide) (by decide) (by decide)⟩⟩
  have newc : ∀ kd i, clv (A8 A nx o op ty tp) kd i → ¬ clv A kd i → (kd = 11 ∧ ∃ k, k < 8 ∧ i = 8 * A 2 2 + k) ∨ ((kd = 19 ∨ kd = 20 ∨ kd = 21) ∧ i = A 2 2) := by
    intro kd i h1 h2
    by_cases e : kd = 11
    · subst e
      have h1' : i < 8 * A8 A nx o op ty tp 2 2 := h1
      have h2' : ¬ i < 8 * A 2 2 := h2
      exact Or.inl ⟨rfl, i - 8 * A 2 2, by omega, by omega⟩
    · by_cases e2 : 19 ≤ kd ∧ kd ≤ 21
      · obtain rfl | rfl | rfl : kd = 19 ∨ kd = 20 ∨ kd = 21 := by omega
        all_goals
          have h1' : i < A8 A nx o op ty tp 2 2 := h1
          have h2' : ¬ i < A 2 2 := h2
          exact Or.inr ⟨by omega, by omega⟩
      · rw [clv_i, cl_ns b20 b21 b23 e e2, ← clv_i] at h1
        exact absurd h1 h2
  have ad11 : ∀ k, k < 8 → cad (A8 A nx o op ty tp) 11 (8 * A 2 2 + k) = nx + (3 + k) := fun k hk => by rw [cad11 _ hk, b5S]
  have adr : ∀ q, q ≠ A 0 0 + 7 → xput M2 (A 0 0 + 7) (.inr (6, 16, updV (fun k => if k < A 2 2 then .ref (A 5 k) else .null) (A 2 2) (.ref nx))) q = M2 q := fun q hq => xput_ne hq
  refine ⟨h.grow (O' := fun q => if q = nx then (19, A 2 2) else if q = nx + 1 then (20, A 2 2) else if q = nx + 2 then (21, A 2 2) else (11, 8 * A 2 2 + (q - (nx + 3)))) x hE (by omega) (fun kd => ?_) (fun kd i h1 h2 => ?_) (fun kd i hl => ?_) (by rw [b20]; exact h.1.2.1) (by rw [b21]; exact h.1.2.2.1) (by rw [b22]; omega) (by rw [b23]; exact h.1.2.2.2.2.1) (fun c hc => ?_), fun q hq hc => ?_⟩
  · by_cases e : kd = 11
    · subst e
      show 8 * A 2 2 ≤ 8 * A8 A nx o op ty tp 2 2
      omega
    · by_cases e2 : 19 ≤ kd ∧ kd ≤ 21
      · obtain rfl | rfl | rfl : kd = 19 ∨ kd = 20 ∨ kd = 21 := by omega
        all_goals
          show A 2 2 ≤ A8 A nx o op ty tp 2 2
          omega
      · rw [cl_ns b20 b21 b23 e e2]
        exact Nat.le_refl _
  · rcases newc kd i h1 h2 with ⟨rfl, k, hk, rfl⟩ | ⟨hkd, rfl⟩
    · rw [ad11 k hk, adr _ (by omega), p3 k hk]
      refine ⟨?_, by omega, by omega, ?_⟩
      · have : vSv v (A 2 2) net 11 (8 * A 2 2 + k) = zE := by unfold vSv; rw [if_pos ⟨rfl, by omega, by omega⟩]
        rw [this]
        rfl
      · show (if _ then _ else _) = _
        rw [if_neg (by omega), if_neg (by omega), if_neg (by omega)]
        congr 2
        omega
    · rcases hkd with rfl | rfl | rfl
      · have ea : cad (A8 A nx o op ty tp) 19 (A 2 2) = nx := b5S
        rw [ea, adr _ (by omega), p0]
        refine ⟨?_, by omega, by omega, by simp⟩
        have : vSv v (A 2 2) net 19 (A 2 2) = w [net, 0, 0, 0, 0, 0] := by unfold vSv; simp
        rw [this]
        show _ = some (Sum.inl (9, [Value.int net, .ref (A8 A nx o op ty tp 7 (8 + A 2 2)), .ref (A8 A nx o op ty tp 7 (24 + A 2 2)), .int 0, .ref (A8 A nx o op ty tp 5 (A 2 2) + 1), .int 0, .ref (A8 A nx o op ty tp 5 (A 2 2) + 2)]))
        rw [b5S, bo7, bt7]
      · have ea : cad (A8 A nx o op ty tp) 20 (A 2 2) = nx + 1 := by show A8 A nx o op ty tp 5 (A 2 2) + 1 = _; rw [b5S]
        rw [ea, adr _ (by omega), p1]
        refine ⟨?_, by omega, by omega, by simp⟩
        have : vSv v (A 2 2) net 20 (A 2 2) = zE := by unfold vSv; simp
        rw [this]
        rfl
      · have ea : cad (A8 A nx o op ty tp) 21 (A 2 2) = nx + 2 := by show A8 A nx o op ty tp 5 (A 2 2) + 2 = _; rw [b5S]
        rw [ea, adr _ (by omega), p2]
        refine ⟨?_, by omega, by omega, by simp⟩
        show _ = some (Sum.inr (9, 8, fun k => if k < 8 then Value.ref (A8 A nx o op ty tp 5 (A 2 2) + (3 + k)) else .null))
        rw [b5S]
  · by_cases e : kd = 7 ∧ i = 0
    · obtain ⟨rfl, rfl⟩ := e
      have : xput M2 (A 0 0 + 7) (.inr (6, 16, updV (fun k => if k < A 2 2 then .ref (A 5 k) else .null) (A 2 2) (.ref nx))) (cad A 7 0) = some (.inr (6, 16, updV (fun k => if k < A 2 2 then .ref (A 5 k) else .null) (A 2 2) (.ref nx))) := xput_same _ _ _
      rw [this]
      show _ = some (Sum.inr (6, 16, fun k => if k < A8 A nx o op ty tp 2 2 then Value.ref (A8 A nx o op ty tp 5 k) else .null))
      congr 4
      funext k
      unfold updV
      rw [b22]
      by_cases z : k = A 2 2
      · rw [if_pos z, if_pos (by omega), z, b5S]
      · rw [if_neg z, b5 k z]
        dsimp only
        by_cases y : k < A 2 2
        · rw [if_pos y, if_pos (by omega)]
        · rw [if_neg y, if_neg (by omega)]
    · have ne : cad A kd i ≠ A 0 0 + 7 := fun z => e (h.1.apart hl l7 z)
      have n7 : kd ≠ 7 := fun z => e ⟨z, by subst z; exact hl.1⟩
      rw [adr _ ne, h.2.1 kd i hl]
      have ev : vSv v (A 2 2) net kd i = v kd i := by
        unfold vSv
        rw [if_neg, if_neg, if_neg]
        · rintro ⟨rfl, rfl⟩
          exact absurd hl (Nat.lt_irrefl _)
        · rintro ⟨rfl, rfl⟩
          exact absurd hl (Nat.lt_irrefl _)
        · rintro ⟨rfl, z, _⟩
          have : i < 8 * A 2 2 := hl
          omega
      rw [ev, x.ct h.1.2.2.2.2.2 hl (fun _ => b20) (fun _ => b21) (fun z => absurd z n7) (fun _ => b23)]
  · rw [b23] at hc
    rw [b22, bo 10 c (by decide) (by decide) (by decide) (by decide)]
    have := h.1.2.2.2.2.2 c hc
    omega
  · obtain ⟨kd, i, hl, e⟩ := hc
    by_cases z : clv A kd i
    · exact ⟨kd, i, z, by rw [← x.ad z]; exact e⟩
    · exfalso
      rcases newc kd i hl z with ⟨rfl, k, hk, rfl⟩ | ⟨hkd, rfl⟩
      · rw [ad11 k hk] at e
        omega
      · have e0 : A8 A nx o op ty tp 5 (A 2 2) = nx := b5S
        rcases hkd with rfl | rfl | rfl
        · have : A8 A nx o op ty tp 5 (A 2 2) = q := e
          omega
        · have : A8 A nx o op ty tp 5 (A 2 2) + 1 = q := e
          omega
        · have : A8 A nx o op ty tp 5 (A 2 2) + 2 = q := e
          omega
/-- the state with a new service -/
def rNs (s : rS) (S Z a c : Nat) : rS := (upd (upd s.1 22 (nI (S + 1))) 4 0, up2 (rKeep (rKeep s (8 + S) 0 c) (24 + S) (c + 1) (Z - (c + 1))).2 16 S (nI a))
theorem rNs_v {s : rS} {S Z a c : Nat} (hS : S < 16) (hc : c < 32) (hZ : Z ≤ 32) : (∀ j, j ≠ 2 → j ≠ 3 → j ≠ 16 → (rNs s S Z a c).2 j = s.2 j) ∧ (∀ i, (rNs s S Z a c).2 16 i = if i = S then nI a else s.2 16 i) ∧ (∀ k, k < c → (rNs s S Z a c).2 2 (32 * (8 + S) + k) = s.2 1 k) ∧ (∀ k, k < Z - (c + 1) → (rNs s S Z a c).2 2 (32 * (24 + S) + k) = s.2 1 (c + 1 + k)) ∧ (∀ t, t ≠ 8 + S → t ≠ 24 + S → ∀ k, k < 32 → (rNs s S Z a c).2 2 (32 * t + k) = s.2 2 (32 * t + k)) ∧ (rNs s S Z a c).2 3 (8 + S) = nI c ∧ (rNs s S Z a c).2 3 (24 + S) = nI (Z - (c + 1)) ∧ ∀ t, t ≠ 8 + S → t ≠ 24 + S → (rNs s S Z a c).2 3 t = s.2 3 t := by
  have k1 : ∀ j, j ≠ 2 → j ≠ 3 → (rKeep s (8 + S) 0 c).2 j = s.2 j := fun j h2 h3 => rKeep_2 s _ _ _ h2 h3
  have u : ∀ j, j ≠ 16 → (rNs s S Z a c).2 j = (rKeep (rKeep s (8 + S) 0 c) (24 + S) (c + 1) (Z - (c + 1))).2 j := fun j hj => up2_n hj
  refine ⟨fun j h2 h3 h16 => ?_, fun i => ?_, fun k hk => ?_, fun k hk => ?_, fun t h1 h2 k hk => ?_, ?_, ?_, fun t h1 h2 => ?_⟩
  · rw [u j h16, rKeep_2 _ _ _ _ h2 h3, k1 j h2 h3]
  · have e : (rNs s S Z a c).2 16 i = up2 (rKeep (rKeep s (8 + S) 0 c) (24 + S) (c + 1) (Z - (c + 1))).2 16 S (nI a) 16 i := rfl
    rw [e, up2_s, rKeep_2 _ _ _ _ (by decide) (by decide), k1 16 (by decide) (by decide)]
  · rw [u 2 (by decide), rKeep_out (by omega), rKeep_in hk, Nat.zero_add]
  · rw [u 2 (by decide), rKeep_in hk, k1 1 (by decide) (by decide)]
  · rw [u 2 (by decide), rKeep_out (by omega), rKeep_out (by omega)]
  · rw [u 3 (by decide), rKeep_3 (by omega), rKeep_ln, if_pos rfl]
  · rw [u 3 (by decide), rKeep_ln, if_pos rfl]
  · rw [u 3 (by decide), rKeep_3 h2, rKeep_3 h1]
