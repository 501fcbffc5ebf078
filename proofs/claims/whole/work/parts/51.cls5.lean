/-! a service's list: the class's places G, the reference's rows D -/
def lRl (σ : Nat → Nat) (G : Nat → Nat → Int32) (D : Nat → Nat → Int32) (L : Nat) : Prop := (∀ e, e < L → σ e < 8 ∧ G (σ e) 0 = 1 ∧ G (σ e) 1 = D 21 e ∧ G (σ e) 2 = D 22 e - 1 ∧ G (σ e) 3 = D 23 e ∧ G (σ e) 4 = D 24 e) ∧ (∀ e e', e < L → e' < L → σ e = σ e' → e = e') ∧ (∀ k, k < 8 → G k 0 = 0 ∨ ∃ e, e < L ∧ σ e = k) ∧ ∀ e e', e < L → e' < L → D 21 e = D 21 e' → D 22 e = D 22 e' → e = e'
theorem lRl.cg {σ : Nat → Nat} {G G' D D' : Nat → Nat → Int32} {L : Nat} (h : lRl σ G D L) (hG : ∀ k, k < 8 → G' k = G k) (hD : ∀ j e, 21 ≤ j → j ≤ 24 → e < L → D' j e = D j e) : lRl σ G' D' L := by
  refine ⟨fun e he => ?_, h.2.1, fun k hk => by rw [hG k hk]; exact h.2.2.1 k hk, fun e e' he he' => ?_⟩
  · have a := h.1 e he
    rw [hG _ a.1, hD 21 e (by decide) (by decide) he, hD 22 e (by decide) (by decide) he, hD 23 e (by decide) (by decide) he, hD 24 e (by decide) (by decide) he]
    exact a
  · rw [hD 21 e (by decide) (by decide) he, hD 22 e (by decide) (by decide) he, hD 21 e' (by decide) (by decide) he', hD 22 e' (by decide) (by decide) he']
    exact h.2.2.2 e e' he he'
theorem sub1_inj {x y : Int32} (h : x - 1 = y - 1) : x = y := by
  have := congrArg (· + 1) h
  simpa using this
/-- an entry struck off -/
theorem lRl.del {σ : Nat → Nat} {G G' D D' : Nat → Nat → Int32} {L e : Nat} (h : lRl σ G D (L + 1)) (he : e < L + 1) (h0 : G' (σ e) 0 = 0) (hG : ∀ k, k < 8 → k ≠ σ e → G' k = G k) (hD : ∀ j q, 21 ≤ j → j ≤ 24 → q < L → D' j q = if q = e then D j L else D j q) : lRl (fun q => if q = e then σ L else σ q) G' D' L := by
  have key : ∀ q, q < L → ∃ p, p < L + 1 ∧ p ≠ e ∧ (if q = e then σ L else σ q) = σ p ∧ p = (if q = e then L else q) ∧ ∀ j, 21 ≤ j → j ≤ 24 → D' j q = D j p := by
    intro q hq
    by_cases c : q = e
    · refine ⟨L, by omega, by omega, by rw [if_pos c], by rw [if_pos c], fun j h1 h2 => by rw [hD j q h1 h2 hq, if_pos c]⟩
    · refine ⟨q, by omega, c, by rw [if_neg c], by rw [if_neg c], fun j h1 h2 => by rw [hD j q h1 h2 hq, if_neg c]⟩
  refine ⟨fun q hq => ?_, fun q q' hq hq' z => ?_, fun k hk => ?_, fun q q' hq hq' z1 z2 => ?_⟩
  · obtain ⟨p, hp, hpe, es, _, ed⟩ := key q hq
    have a := h.1 p hp
    dsimp only
    rw [es, ed 21 (by decide) (by decide), ed 22 (by decide) (by decide), ed 23 (by decide) (by decide), ed 24 (by decide) (by decide), hG _ a.1 (fun z => hpe (h.2.1 p e hp he z))]
    exact a
  · obtain ⟨p, hp, hpe, es, ep, _⟩ := key q hq
    obtain ⟨p', hp', hpe', es', ep', _⟩ := key q' hq'
    dsimp only at z
    rw [es, es'] at z
    have := h.2.1 p p' hp hp' z
    rw [ep, ep'] at this
    by_cases c : q = e <;> by_cases c' : q' = e <;> simp [c, c'] at this ⊢ <;> omega
  · by_cases c : k = σ e
    · left
      rw [c]; exact h0
    · rw [hG k hk c]
      rcases h.2.2.1 k hk with a | ⟨p, hp, ep⟩
      · exact Or.inl a
      · right
        have pe : p ≠ e := fun z => c (by rw [← z]; exact ep.symm)
        by_cases c2 : p = L
        · refine ⟨e, by omega, ?_⟩
          dsimp only
          rw [if_pos rfl, ← c2]; exact ep
        · refine ⟨p, by omega, ?_⟩
          dsimp only
          rw [if_neg pe]; exact ep
  · obtain ⟨p, hp, hpe, es, ep, ed⟩ := key q hq
    obtain ⟨p', hp', hpe', es', ep', ed'⟩ := key q' hq'
    rw [ed 21 (by decide) (by decide), ed' 21 (by decide) (by decide)] at z1
    rw [ed 22 (by decide) (by decide), ed' 22 (by decide) (by decide)] at z2
    have := h.2.2.2 p p' hp hp' z1 z2
    rw [ep, ep'] at this
    by_cases c : q = e <;> by_cases c' : q' = e <;> simp [c, c'] at this ⊢ <;> omega
/-- an entry added in a free place -/
theorem lRl.add {σ : Nat → Nat} {G G' D D' : Nat → Nat → Int32} {L k : Nat} (h : lRl σ G D L) (hk : k < 8) (hf : G k 0 = 0) (h0 : G' k 0 = 1 ∧ G' k 1 = D' 21 L ∧ G' k 2 = D' 22 L - 1 ∧ G' k 3 = D' 23 L ∧ G' k 4 = D' 24 L) (hG : ∀ q, q < 8 → q ≠ k → G' q = G q) (hD : ∀ j q, 21 ≤ j → j ≤ 24 → q < L → D' j q = D j q) (hn : ∀ e, e < L → ¬ (D 21 e = D' 21 L ∧ D 22 e = D' 22 L)) : lRl (fun q => if q = L then k else σ q) G' D' (L + 1) := by
  have sk : ∀ e, e < L → σ e ≠ k := fun e he z => by have := (h.1 e he).2.1; rw [z, hf] at this; exact absurd this (by decide)
  refine ⟨fun q hq => ?_, fun q q' hq hq' z => ?_, fun q hq => ?_, fun q q' hq hq' z1 z2 => ?_⟩
  · dsimp only
    by_cases c : q = L
    · subst c
      rw [if_pos rfl]
      exact ⟨hk, h0⟩
    · rw [if_neg c]
      have a := h.1 q (by omega)
      rw [hG _ a.1 (sk q (by omega)), hD 21 q (by decide) (by decide) (by omega), hD 22 q (by decide) (by decide) (by omega), hD 23 q (by decide) (by decide) (by omega), hD 24 q (by decide) (by decide) (by omega)]
      exact a
  · dsimp only at z
    by_cases c : q = L <;> by_cases c' : q' = L
    · omega
    · rw [if_pos c, if_neg c'] at z
      exact absurd z.symm (sk q' (by omega))
    · rw [if_neg c, if_pos c'] at z
      exact absurd z (sk q (by omega))
    · rw [if_neg c, if_neg c'] at z
      exact h.2.1 q q' (by omega) (by omega) z
  · by_cases c : q = k
    · right
      exact ⟨L, by omega, by dsimp only; rw [if_pos rfl, c]⟩
    · rw [hG q hq c]
      rcases h.2.2.1 q hq with a | ⟨e, he, ee⟩
      · exact Or.inl a
      · exact Or.inr ⟨e, by omega, by dsimp only; rw [if_neg (by omega)]; exact ee⟩
  · by_cases c : q = L <;> by_cases c' : q' = L
    · omega
    · subst c
      rw [hD 21 q' (by decide) (by decide) (by omega)] at z1
      rw [hD 22 q' (by decide) (by decide) (by omega)] at z2
      exact absurd ⟨z1.symm, z2.symm⟩ (hn q' (by omega))
    · subst c'
      rw [hD 21 q (by decide) (by decide) (by omega)] at z1
      rw [hD 22 q (by decide) (by decide) (by omega)] at z2
      exact absurd ⟨z1, z2⟩ (hn q (by omega))
    · rw [hD 21 q (by decide) (by decide) (by omega), hD 21 q' (by decide) (by decide) (by omega)] at z1
      rw [hD 22 q (by decide) (by decide) (by omega), hD 22 q' (by decide) (by decide) (by omega)] at z2
      exact h.2.2.2 q q' (by omega) (by omega) z1 z2
/-- how many places are used -/
theorem cnt_sig : ∀ L (σ : Nat → Nat) (u : Nat → Bool), (∀ e, e < L → σ e < 8 ∧ u (σ e) = true) → (∀ e e', e < L → e' < L → σ e = σ e' → e = e') → (∀ k, k < 8 → u k = true → ∃ e, e < L ∧ σ e = k) → cnt u 8 = L
  | 0, σ, u, _, _, h3 => cnt_0 8 (fun k hk => by
      by_cases c : u k = true
      · obtain ⟨e, he, _⟩ := h3 k hk c
        omega
      · simpa using c)
  | L + 1, σ, u, h1, h2, h3 => by
    have a := h1 L (by omega)
    rw [cnt_del a.2 8 a.1, cnt_sig L σ (fun j => u j && decide (¬ j = σ L)) (fun e he => ⟨(h1 e (by omega)).1, ?_⟩) (fun e e' he he' => h2 e e' (by omega) (by omega)) (fun k hk hu => ?_)]
    · have b := h1 e (by omega)
      simp only [b.2, Bool.true_and, decide_eq_true_eq]
      intro z
      have := h2 e L (by omega) (by omega) z
      omega
    · simp only [Bool.and_eq_true, decide_eq_true_eq] at hu
      obtain ⟨e, he, ee⟩ := h3 k hk hu.1
      exact ⟨e, by
        have : e ≠ L := fun z => hu.2 (by rw [← ee, z])
        omega, ee⟩
theorem lRl.num {σ : Nat → Nat} {G D : Nat → Nat → Int32} {L : Nat} (h : lRl σ G D L) : cnt (fun k => decide (¬ G k 0 = 0)) 8 = L := by
  refine cnt_sig L σ _ (fun e he => ⟨(h.1 e he).1, ?_⟩) h.2.1 (fun k hk hu => ?_)
  · rw [(h.1 e he).2.1]
    decide
  · simp only [decide_eq_true_eq] at hu
    rcases h.2.2.1 k hk with a | a
    · exact absurd a hu
    · exact a
theorem rEnt_s {s : rS} {i : Nat} {x y : Int32} : ∀ l e0 e, rEnt s i x y l e0 = some e → e0 ≤ e ∧ e < e0 + l ∧ s.2 21 (8 * i + e) = x ∧ s.2 22 (8 * i + e) = y
  | 0, _, _, h => by simp [rEnt] at h
  | l + 1, e0, e, h => by
    rw [rEnt] at h
    split at h
    · next c =>
      injection h with h
      subst h
      exact ⟨by omega, by omega, c⟩
    · have := rEnt_s l (e0 + 1) e h
      exact ⟨by omega, by omega, this.2.2⟩
theorem rEnt_n {s : rS} {i : Nat} {x y : Int32} : ∀ l e0, rEnt s i x y l e0 = none → ∀ e, e0 ≤ e → e < e0 + l → ¬ (s.2 21 (8 * i + e) = x ∧ s.2 22 (8 * i + e) = y)
  | 0, _, _, e, h1, h2 => by omega
  | l + 1, e0, h, e, h1, h2 => by
    rw [rEnt] at h
    split at h
    · exact absurd h (by simp)
    · next c =>
      by_cases q : e = e0
      · rw [q]; exact c
      · exact rEnt_n l (e0 + 1) h e (by omega) (by omega)
/-- the class's look through its places: found, or the last free one -/
def cFd (G : Nat → Nat → Int32) (x y : Int32) : Nat → Nat → Option Nat → Option Nat × Option Nat
  | 0, _, f => (none, f)
  | l + 1, k, f => if G k 0 = 0 then cFd G x y l (k + 1) (some k) else if G k 1 = x ∧ G k 2 = y then (some k, f) else cFd G x y l (k + 1) f
theorem cFd_s {G : Nat → Nat → Int32} {x y : Int32} : ∀ l k0 f k, (cFd G x y l k0 f).1 = some k → k0 ≤ k ∧ k < k0 + l ∧ ¬ G k 0 = 0 ∧ G k 1 = x ∧ G k 2 = y
  | 0, _, _, _, h => by simp [cFd] at h
  | l + 1, k0, f, k, h => by
    rw [cFd] at h
    split at h
    · have := cFd_s l (k0 + 1) _ k h
      exact ⟨by omega, by omega, this.2.2⟩
    · next c =>
      split at h
      · next d =>
        injection h with h
        subst h
        exact ⟨by omega, by omega, c, d⟩
      · have := cFd_s l (k0 + 1) _ k h
        exact ⟨by omega, by omega, this.2.2⟩
theorem cFd_n {G : Nat → Nat → Int32} {x y : Int32} : ∀ l k0 f, (cFd G x y l k0 f).1 = none → (∀ k, k0 ≤ k → k < k0 + l → G k 0 = 0 ∨ ¬ (G k 1 = x ∧ G k 2 = y)) ∧ ((cFd G x y l k0 f).2 = none → f = none ∧ ∀ k, k0 ≤ k → k < k0 + l → ¬ G k 0 = 0) ∧ ∀ q, (cFd G x y l k0 f).2 = some q → f = some q ∨ (k0 ≤ q ∧ q < k0 + l ∧ G q 0 = 0)
  | 0, k0, f, h => by
    rw [cFd]
    exact ⟨fun k h1 h2 => by omega, fun z => ⟨z, fun k h1 h2 => by omega⟩, fun q z => Or.inl z⟩
  | l + 1, k0, f, h => by
    rw [cFd] at h ⊢
    by_cases c : G k0 0 = 0
    · rw [if_pos c] at h ⊢
      have a := cFd_n l (k0 + 1) _ h
      refine ⟨fun k h1 h2 => ?_, fun z => absurd (a.2.1 z).1 (by simp), fun q z => ?_⟩
      · by_cases e : k = k0
        · rw [e]; exact Or.inl c
        · exact a.1 k (by omega) (by omega)
      · rcases a.2.2 q z with b | b
        · injection b with b
          subst b
          exact Or.inr ⟨by omega, by omega, c⟩
        · exact Or.inr ⟨by omega, by omega, b.2.2⟩
    · rw [if_neg c] at h ⊢
      by_cases d : G k0 1 = x ∧ G k0 2 = y
      · rw [if_pos d] at h
        exact absurd h (by simp)
      · rw [if_neg d] at h ⊢
        have a := cFd_n l (k0 + 1) _ h
        refine ⟨fun k h1 h2 => ?_, fun z => ⟨(a.2.1 z).1, fun k h1 h2 => ?_⟩, fun q z => ?_⟩
        · by_cases e : k = k0
          · rw [e]; exact Or.inr d
          · exact a.1 k (by omega) (by omega)
        · by_cases e : k = k0
          · rw [e]; exact c
          · exact (a.2.1 z).2 k (by omega) (by omega)
        · rcases a.2.2 q z with b | b
          · exact Or.inl b
          · exact Or.inr ⟨by omega, by omega, b.2.2⟩
/-- both find the same one -/
theorem lRl.find {σ : Nat → Nat} {G : Nat → Nat → Int32} {s : rS} {i L : Nat} {x y : Int32} (h : lRl σ G (fun j e => s.2 j (8 * i + e)) L) : (∀ e, rEnt s i x y L 0 = some e → e < L ∧ (cFd G x (y - 1) 8 0 none).1 = some (σ e)) ∧ (rEnt s i x y L 0 = none → (cFd G x (y - 1) 8 0 none).1 = none ∧ (∀ e, e < L → ¬ (s.2 21 (8 * i + e) = x ∧ s.2 22 (8 * i + e) = y)) ∧ ((cFd G x (y - 1) 8 0 none).2 = none → L = 8) ∧ ∀ k, (cFd G x (y - 1) 8 0 none).2 = some k → k < 8 ∧ G k 0 = 0 ∧ ¬ L = 8) := by
  refine ⟨fun e he => ?_, fun hn => ?_⟩
  · obtain ⟨_, e2, e3, e4⟩ := rEnt_s L 0 e he
    have eL : e < L := by omega
    refine ⟨eL, ?_⟩
    have a := h.1 e eL
    cases hc : (cFd G x (y - 1) 8 0 none).1 with
    | none =>
      have := (cFd_n 8 0 none hc).1 (σ e) (by omega) (by omega)
      rw [a.2.1, a.2.2.1, a.2.2.2.1] at this
      dsimp only at this
      rw [e3, e4] at this
      rcases this with z | z
      · exact absurd z (by decide)
      · exact absurd ⟨rfl, rfl⟩ z
    | some k =>
      obtain ⟨_, k2, k3, k4, k5⟩ := cFd_s 8 0 none k hc
      rcases h.2.2.1 k (by omega) with z | ⟨e', he', ee'⟩
      · exact absurd z k3
      · have b := h.1 e' he'
        rw [ee'] at b
        rw [k4, k5] at b
        have : e' = e := h.2.2.2 e' e he' eL (by dsimp only; rw [e3]; exact b.2.2.1.symm) (by dsimp only; rw [e4]; exact (sub1_inj b.2.2.2.1).symm)
        rw [← this, ee']
  · have nn := rEnt_n L 0 hn
    have nn' : ∀ e, e < L → ¬ (s.2 21 (8 * i + e) = x ∧ s.2 22 (8 * i + e) = y) := fun e he => nn e (by omega) (by omega)
    have hc : (cFd G x (y - 1) 8 0 none).1 = none := by
      cases hc : (cFd G x (y - 1) 8 0 none).1 with
      | none => rfl
      | some k =>
        exfalso
        obtain ⟨_, k2, k3, k4, k5⟩ := cFd_s 8 0 none k hc
        rcases h.2.2.1 k (by omega) with z | ⟨e', he', ee'⟩
        · exact k3 z
        · have b := h.1 e' he'
          rw [ee', k4, k5] at b
          exact nn' e' he' ⟨b.2.2.1.symm, (sub1_inj b.2.2.2.1).symm⟩
    have a := cFd_n 8 0 none hc
    refine ⟨hc, nn', fun z => ?_, fun k z => ?_⟩
    · have u := (a.2.1 z).2
      have c8 := h.num
      have : ∀ n, n ≤ 8 → cnt (fun k => decide (¬ G k 0 = 0)) n = n := by
        intro n
        induction n with
        | zero => intro _; rfl
        | succ n ih => intro hn; rw [cnt, ih (by omega), if_pos (by simpa using u n (by omega) (by omega))]
      rw [this 8 (by omega)] at c8
      exact c8.symm
    · rcases a.2.2 k z with b | b
      · exact absurd b (by simp)
      · refine ⟨by omega, b.2.2, fun z8 => ?_⟩
        have c8 := h.num
        rw [z8] at c8
        have := cnt_full 8 c8 k (by omega)
        simp [b.2.2] at this
