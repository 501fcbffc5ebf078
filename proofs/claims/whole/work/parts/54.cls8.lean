/-! sessions, services and numbers against the reference -/
/-- what of the reference's state belongs to service i -/
def rSi' (s s' : rS) (i : Nat) : Prop := s'.1 21 = s.1 21 ∧ s'.2 16 i = s.2 16 i ∧ s'.2 17 i = s.2 17 i ∧ (∀ k, k < 4 → s'.2 18 (4 * i + k) = s.2 18 (4 * i + k)) ∧ s'.2 19 i = s.2 19 i ∧ s'.2 20 i = s.2 20 i ∧ ∀ j e, 21 ≤ j → j ≤ 24 → e < 8 → s'.2 j (8 * i + e) = s.2 j (8 * i + e)
theorem rSi'.of {s s' : rS} (h1 : s'.1 21 = s.1 21) (h2 : ∀ j, 16 ≤ j → j ≤ 24 → s'.2 j = s.2 j) (i : Nat) : rSi' s s' i := ⟨h1, by rw [h2 16 (by decide) (by decide)], by rw [h2 17 (by decide) (by decide)], fun k _ => by rw [h2 18 (by decide) (by decide)], by rw [h2 19 (by decide) (by decide)], by rw [h2 20 (by decide) (by decide)], fun j e a b _ => by rw [h2 j (by omega) (by omega)]⟩
theorem cS1.cg {v v' : cV} {s s' : rS} {i : Nat} (h : cS1 v s i) (k19 : v' 19 i = v 19 i) (k20 : v' 20 i = v 20 i) (k11 : ∀ k, k < 8 → v' 11 (8 * i + k) = v 11 (8 * i + k)) (e : rSi' s s' i) : cS1 v' s' i := by
  obtain ⟨e21, e16, e17, e18, e19, e20, el⟩ := e
  obtain ⟨h1, h2, h3, h4, h5, h6, L, hL, h20, ⟨σ, hl⟩, T, hT, eT, ht⟩ := h
  have hm : rHm s' i = rHm s i := by unfold rHm; rw [e16]
  refine ⟨by rw [k19, hm]; exact h1, by rw [hm]; exact h2, by rw [k19, e17]; exact h3, by rw [e17]; exact h4, by rw [k19, e19]; exact h5, fun k hk => by rw [k20, e18 k hk]; exact h6 k hk, L, hL, by rw [e20]; exact h20, ⟨σ, hl.cg k11 (fun j e h1 h2 he => el j e h1 h2 (by omega))⟩, T, hT, by rw [e21]; exact eT, fun q hq => ?_⟩
  rw [el 24 q (by decide) (by decide) (by omega)]
  exact ht q hq
/-- a session -/
def cC1 (A : cA) (v : cV) (s : rS) (c : Nat) : Prop := (v 22 c 0 = nI c ∧ v 22 c 1 = nI (rCn s c) ∧ A 10 c = rSv s c ∧ rCn s c < 8) ∧ (v 22 c 3 = s.2 28 c ∧ v 22 c 4 = s.2 29 c ∧ v 22 c 5 = s.2 30 c - 1 ∧ v 22 c 6 = s.2 31 c ∧ v 22 c 7 = s.2 32 c ∧ v 22 c 8 = s.2 33 c ∧ v 22 c 9 = s.2 34 c ∧ v 22 c 10 = s.2 35 c ∧ v 22 c 11 = s.2 36 c ∧ v 22 c 12 = s.2 37 c) ∧ (s.2 28 c = 0 ∨ s.2 28 c = 1) ∧ (s.2 28 c = 0 → ∃ j, j < 5 ∧ s.2 29 c = nI j) ∧ (∃ m, m < 256 ∧ s.2 34 c = nI m) ∧ ∃ q, q < 8 ∧ s.2 32 c = nI q
theorem cC1.cg {A : cA} {v v' : cV} {s s' : rS} {c : Nat} (h : cC1 A v s c) (k22 : v' 22 c = v 22 c) (e : ∀ j, 26 ≤ j → j ≤ 37 → s'.2 j c = s.2 j c) : cC1 A v' s' c := by
  have a : rCn s' c = rCn s c := by unfold rCn; rw [e 26 (by decide) (by decide)]
  have b : rSv s' c = rSv s c := by unfold rSv; rw [e 27 (by decide) (by decide)]
  unfold cC1 at h ⊢
  rw [k22, a, b, e 28 (by decide) (by decide), e 29 (by decide) (by decide), e 30 (by decide) (by decide), e 31 (by decide) (by decide), e 32 (by decide) (by decide), e 33 (by decide) (by decide), e 34 (by decide) (by decide), e 35 (by decide) (by decide), e 36 (by decide) (by decide), e 37 (by decide) (by decide)]
  exact h
/-- the numbers -/
def cN (A : cA) (v : cV) (s : rS) : Prop := (v 0 0 0 = s.1 0 ∧ v 0 0 1 = s.1 1 ∧ v 0 0 2 = s.1 2 ∧ v 0 0 14 = s.1 21) ∧ (v 0 0 7 = nI (A 2 2) ∧ s.1 22 = nI (A 2 2) ∧ v 0 0 9 = nI (A 2 3) ∧ s.1 34 = nI (A 2 3)) ∧ (∃ q, 1 ≤ q ∧ q ≤ 16 ∧ s.1 2 = nI q) ∧ ∃ T, T < 2 ^ 30 ∧ s.1 21 = nI T
def cLn (v : cV) (s : rS) : Prop := v 9 0 1 = s.1 47 ∧ v 9 0 2 = s.1 48
/-- all but texts, names, nodes and what was found -/
def cQ (A : cA) (v : cV) (s : rS) : Prop := cM A v s ∧ cN A v s ∧ cLn v s ∧ (∀ i, i < A 2 2 → cS1 v s i) ∧ ∀ c, c < A 2 3 → cC1 A v s c
theorem cM.sm {A : cA} {v v' : cV} {s s' : rS} (h : cM A v s) (k4 : v' 4 = v 4) (k10 : v' 10 = v 10) (k14 : v' 14 = v 14) (k15 : v' 15 = v 15) (e7 : s'.1 7 = s.1 7) (e9 : s'.1 9 = s.1 9) (e : ∀ j, 5 ≤ j → j ≤ 11 → s'.2 j = s.2 j) : cM A v' s' := by
  obtain ⟨m1, m2, m3, m4⟩ := h
  have hh : rHas s' = rHas s := by funext r n; unfold rHas; rw [e 5 (by decide) (by decide)]
  have pc : rPc s' = rPc s := by funext r; unfold rPc; rw [hh]
  refine ⟨by rw [k4, e7, e9]; exact m1, fun r hr => by rw [k14, k15, e 6 (by decide) (by decide), hh, pc]; exact m2 r hr, fun r k hr hk => ?_, m4.sm (e 5 (by decide) (by decide)) (e 6 (by decide) (by decide)) (fun j i h1 h2 _ => by rw [e j (by omega) (by omega)])⟩
  rw [k10]
  exact (m3 r k hr hk).sm (fun j h1 h2 => by rw [e j (by omega) (by omega)])
/-- a session alone has changed -/
theorem cQ.ses {A : cA} {v : cV} {s s' : rS} {c : Nat} {g : Nat → Int32} (h : cQ A v s) (e1 : s'.1 = s.1) (e2 : ∀ j, j < 26 → s'.2 j = s.2 j) (e3 : ∀ j q, q ≠ c → s'.2 j q = s.2 j q) (hc : cC1 A (uv v 22 c g) s' c) : cQ A (uv v 22 c g) s' := by
  obtain ⟨m, n, l, sv, se⟩ := h
  refine ⟨m.sm (uv_k (by decide)) (uv_k (by decide)) (uv_k (by decide)) (uv_k (by decide)) (by rw [e1]) (by rw [e1]) (fun j _ _ => e2 j (by omega)), ?_, ?_, fun i hi => ?_, fun c' hc' => ?_⟩
  · unfold cN at n ⊢
    rw [uv_k (by decide), e1]
    exact n
  · unfold cLn at l ⊢
    rw [uv_k (by decide), e1]
    exact l
  · exact (sv i hi).cg (by rw [uv_k (by decide)]) (by rw [uv_k (by decide)]) (fun k _ => by rw [uv_k (by decide)]) (rSi'.of (by rw [e1]) (fun j _ _ => e2 j (by omega)) i)
  · by_cases q : c' = c
    · rw [q]; exact hc
    · exact (se c' hc').cg (uv_n (fun z => q z.2)) (fun j _ _ => e3 j c' q)
/-- a packet -/
theorem cQ.pk {A : cA} {v : cV} {s : rS} {g : Nat → Int32} (h : cQ A v s) (g1 : g 1 = rLs (s.1 47)) (g2 : g 2 = s.1 48 + 1) : cQ A (uv v 9 0 g) (rPk s) := by
  obtain ⟨m, n, l, sv, se⟩ := h
  refine ⟨m.sm (uv_k (by decide)) (uv_k (by decide)) (uv_k (by decide)) (uv_k (by decide)) rfl rfl (fun j _ _ => rfl), ?_, ?_, fun i hi => ?_, fun c' hc' => ?_⟩
  · unfold cN at n ⊢
    rw [uv_k (by decide)]
    exact n
  · unfold cLn
    rw [uv_s]
    exact ⟨g1, g2⟩
  · exact (sv i hi).cg (by rw [uv_k (by decide)]) (by rw [uv_k (by decide)]) (fun k _ => by rw [uv_k (by decide)]) (rSi'.of rfl (fun j _ _ => rfl) i)
  · exact (se c' hc').cg (by rw [uv_k (by decide)]) (fun j _ _ => rfl)
/-- service i alone has changed: its list, records, count -/
theorem cQ.svc {A : cA} {v v' : cV} {s s' : rS} {i : Nat} (h : cQ A v s) (k : ∀ kd, kd ≠ 11 → kd ≠ 19 → kd ≠ 20 → v' kd = v kd) (k19 : ∀ q, q ≠ i → v' 19 q = v 19 q) (k20 : ∀ q, q ≠ i → v' 20 q = v 20 q) (k11 : ∀ q, ¬ (8 * i ≤ q ∧ q < 8 * i + 8) → v' 11 q = v 11 q) (e1 : s'.1 = s.1) (e2 : ∀ j, j < 16 ∨ 24 < j → s'.2 j = s.2 j) (e3 : ∀ q, q ≠ i → rSi' s s' q) (hi : cS1 v' s' i) : cQ A v' s' := by
  obtain ⟨m, n, l, sv, se⟩ := h
  refine ⟨m.sm (k 4 (by decide) (by decide) (by decide)) (k 10 (by decide) (by decide) (by decide)) (k 14 (by decide) (by decide) (by decide)) (k 15 (by decide) (by decide) (by decide)) (by rw [e1]) (by rw [e1]) (fun j _ _ => e2 j (by omega)), ?_, ?_, fun q hq => ?_, fun c' hc' => ?_⟩
  · unfold cN at n ⊢
    rw [k 0 (by decide) (by decide) (by decide), e1]
    exact n
  · unfold cLn at l ⊢
    rw [k 9 (by decide) (by decide) (by decide), e1]
    exact l
  · by_cases z : q = i
    · rw [z]; exact hi
    · exact (sv q hq).cg (k19 q z) (k20 q z) (fun k hk => k11 _ (by omega)) (e3 q z)
  · exact (se c' hc').cg (by rw [k 22 (by decide) (by decide) (by decide)]) (fun j _ _ => by rw [e2 j (by omega)])
/-- place k of service i holds entry e of a list of L -/
def cAt (v : cV) (s : rS) (i e k L : Nat) : Prop := e < L ∧ L ≤ 8 ∧ s.2 20 i = nI L ∧ ∃ σ, lRl σ (fun k => v 11 (8 * i + k)) (fun j e => s.2 j (8 * i + e)) L ∧ σ e = k
theorem cAt.cg {v v' : cV} {s s' : rS} {i e k L : Nat} (h : cAt v s i e k L) (k11 : ∀ k, k < 8 → v' 11 (8 * i + k) = v 11 (8 * i + k)) (hd : ∀ j, 20 ≤ j → j ≤ 24 → s'.2 j = s.2 j) : cAt v' s' i e k L := by
  obtain ⟨h1, h2, h3, σ, h4, h5⟩ := h
  exact ⟨h1, h2, by rw [hd 20 (by decide) (by decide)]; exact h3, σ, h4.cg k11 (fun j e a b _ => by rw [hd j (by omega) (by omega)]), h5⟩
/-- the time of an entry -/
theorem cQ.tim {A : cA} {v : cV} {s : rS} {i e k L : Nat} (h : cQ A v s) (hi : i < A 2 2) (ha : cAt v s i e k L) : cQ A (uv v 11 (8 * i + k) (w [v 11 (8 * i + k) 0, v 11 (8 * i + k) 1, v 11 (8 * i + k) 2, v 11 (8 * i + k) 3, s.1 21])) (s.1, up2 s.2 24 (8 * i + e) (s.1 21)) ∧ cAt (uv v 11 (8 * i + k) (w [v 11 (8 * i + k) 0, v 11 (8 * i + k) 1, v 11 (8 * i + k) 2, v 11 (8 * i + k) 3, s.1 21])) (s.1, up2 s.2 24 (8 * i + e) (s.1 21)) i e k L := by
  obtain ⟨h1, h2, h3, σ, h4, h5⟩ := ha
  have k8 : k < 8 := by rw [← h5]; exact (h4.1 e h1).1
  have lr : lRl σ (fun q => uv v 11 (8 * i + k) (w [v 11 (8 * i + k) 0, v 11 (8 * i + k) 1, v 11 (8 * i + k) 2, v 11 (8 * i + k) 3, s.1 21]) 11 (8 * i + q)) (fun j q => up2 s.2 24 (8 * i + e) (s.1 21) j (8 * i + q)) L := by
    have g0 : ∀ q, q < 8 → ∀ m, m < 4 → uv v 11 (8 * i + k) (w [v 11 (8 * i + k) 0, v 11 (8 * i + k) 1, v 11 (8 * i + k) 2, v 11 (8 * i + k) 3, s.1 21]) 11 (8 * i + q) m = v 11 (8 * i + q) m := by
      intro q hq m hm
      by_cases z : q = k
      · subst z
        rw [uv_s]
        obtain rfl | rfl | rfl | rfl : m = 0 ∨ m = 1 ∨ m = 2 ∨ m = 3 := by omega
        all_goals rfl
      · rw [uv_n (by omega)]
    refine ⟨fun q hq => ?_, h4.2.1, fun q hq => ?_, fun q q' hq hq' => ?_⟩
    · have a := h4.1 q hq
      dsimp only
      rw [up2_n (by decide), up2_n (by decide), up2_n (by decide)]
      rw [g0 _ a.1 0 (by decide), g0 _ a.1 1 (by decide), g0 _ a.1 2 (by decide), g0 _ a.1 3 (by decide)]
      refine ⟨a.1, a.2.1, a.2.2.1, a.2.2.2.1, a.2.2.2.2.1, ?_⟩
      by_cases z : q = e
      · subst z
        rw [h5, uv_s, up2_s, if_pos rfl]
        rfl
      · have : σ q ≠ k := fun y => z (h4.2.1 q e hq h1 (y.trans h5.symm))
        rw [uv_n (by omega), up2_s, if_neg (by omega)]
        exact a.2.2.2.2.2
    · dsimp only
      rw [g0 q hq 0 (by decide)]
      exact h4.2.2.1 q hq
    · dsimp only
      rw [up2_n (by decide), up2_n (by decide)]
      exact h4.2.2.2 q q' hq hq'
  have sv := h.2.2.2.1 i hi
  refine ⟨h.svc (i := i) (fun kd a b c => uv_k (by omega)) (fun q _ => by rw [uv_k (by decide)]) (fun q _ => by rw [uv_k (by decide)]) (fun q hq => uv_n (by omega)) rfl (fun j hj => up2_n (by omega)) (fun q hq => ⟨rfl, by dsimp only; rw [up2_n (by decide)], by dsimp only; rw [up2_n (by decide)], fun k _ => by dsimp only; rw [up2_n (by decide)], by dsimp only; rw [up2_n (by decide)], by dsimp only; rw [up2_n (by decide)], fun j e' _ _ _ => up2_off (by omega)⟩) ?_, h1, h2, by dsimp only; rw [up2_n (by decide)]; exact h3, σ, lr, h5⟩
  obtain ⟨s1, s2, s3, s4, s5, s6, L', hL', h20, ⟨σ', hl⟩, T, hT, eT, ht⟩ := sv
  have eL : L' = L := nI_inj (by omega) (by omega) (h20.symm.trans h3)
  subst eL
  refine ⟨?_, s2, ?_, ?_, ?_, fun q hq => ?_, L', hL', ?_, ⟨σ, lr⟩, T, hT, eT, fun q hq => ?_⟩
  · rw [uv_k (by decide)]; exact s1
  · rw [uv_k (by decide)]; dsimp only; rw [up2_n (by decide)]; exact s3
  · dsimp only; rw [up2_n (by decide)]; exact s4
  · rw [uv_k (by decide)]; dsimp only; rw [up2_n (by decide)]; exact s5
  · rw [uv_k (by decide)]; dsimp only; rw [up2_n (by decide)]; exact s6 q hq
  · dsimp only; rw [up2_n (by decide)]; exact h20
  · dsimp only
    rw [up2_s]
    split
    · exact ⟨T, Nat.le_refl T, eT⟩
    · exact ht q hq
