/-! the class's tables against the reference's -/
/-- a vector of numbers -/
def w (l : List Int32) : Nat → Int32 := fun k => l.getD k 0
/-- how many k < n there are -/
def cnt (u : Nat → Bool) : Nat → Nat
  | 0 => 0
  | n + 1 => cnt u n + (if u n then 1 else 0)
theorem cnt_cg {u u' : Nat → Bool} : ∀ n, (∀ k, k < n → u k = u' k) → cnt u n = cnt u' n
  | 0, _ => rfl
  | n + 1, h => by rw [cnt, cnt, cnt_cg n (fun k hk => h k (by omega)), h n (by omega)]
theorem cnt_0 {u : Nat → Bool} : ∀ n, (∀ k, k < n → u k = false) → cnt u n = 0
  | 0, _ => rfl
  | n + 1, h => by rw [cnt, cnt_0 n (fun k hk => h k (by omega)), h n (by omega)]; rfl
theorem cnt_le (u : Nat → Bool) : ∀ n, cnt u n ≤ n
  | 0 => Nat.le_refl 0
  | n + 1 => by
    have := cnt_le u n
    rw [cnt]
    by_cases e : u n = true
    · rw [if_pos e]; omega
    · rw [if_neg e]; omega
theorem cnt_del {u : Nat → Bool} {k : Nat} (hu : u k = true) : ∀ n, k < n → cnt u n = cnt (fun j => u j && decide (¬ j = k)) n + 1
  | 0, h => by omega
  | n + 1, h => by
    rw [cnt, cnt]
    by_cases e : k = n
    · subst e
      rw [cnt_cg (u := fun j => u j && decide (¬ j = k)) (u' := u) k (fun j hj => by simp [show ¬ j = k by omega])]
      simp [hu]
    · rw [cnt_del hu n (by omega)]
      by_cases f : u n = true
      · simp [f, show ¬ n = k by omega]
      · simp [f]
theorem cnt_full {u : Nat → Bool} : ∀ n, cnt u n = n → ∀ k, k < n → u k = true
  | 0, _, k, hk => by omega
  | n + 1, h, k, hk => by
    rw [cnt] at h
    have := cnt_le u n
    by_cases e : u n = true
    · rw [if_pos e] at h
      by_cases f : k = n
      · rw [f]; exact e
      · exact cnt_full n (by omega) k (by omega)
    · rw [if_neg e] at h
      omega
/-- how many ports router r has -/
def rPc (s : rS) (r : Nat) : Nat := cnt (rHas s r) 8
/-- an entry of the class against the reference's -/
def cE (g : Nat → Int32) (s : rS) (i : Nat) : Prop := g 0 = (if s.2 7 i < 0 then 0 else 1) ∧ (¬ s.2 7 i < 0 → g 1 = s.2 7 i ∧ g 2 = s.2 8 i ∧ g 3 = s.2 9 i ∧ g 4 = s.2 10 i) ∧ g 5 = (if ¬ s.2 7 i < 0 ∧ ¬ s.2 11 i = 0 then 1 else 0)
/-- the reference's entry of router r for network n is in order -/
def rTb1 (s : rS) (R N r n : Nat) : Prop :=
  if r < R ∧ ¬ s.2 6 r = 0 ∧ rHas s r n = true then s.2 7 (8 * r + n) = 0 ∧ s.2 8 (8 * r + n) = -1 ∧ s.2 9 (8 * r + n) = nI n ∧ s.2 10 (8 * r + n) = 0
  else s.2 7 (8 * r + n) < 0 ∨ (r < R ∧ ¬ s.2 6 r = 0 ∧ n < N ∧ ∃ d t p h, 1 ≤ d ∧ d ≤ 15 ∧ s.2 7 (8 * r + n) = nI d ∧ t < R ∧ s.2 8 (8 * r + n) = nI t ∧ p < 8 ∧ s.2 9 (8 * r + n) = nI p ∧ rHas s r p = true ∧ h ≤ 2 ∧ s.2 10 (8 * r + n) = nI h)
def rTb (s : rS) (R N : Nat) : Prop := (∀ r n, r < 6 → n < 8 → rTb1 s R N r n) ∧ (∀ r, r < R → s.2 6 r = 0 ∨ s.2 6 r = 1) ∧ ∀ r n, r < R → n < 8 → rHas s r n = true → n < N
/-- an entry that is there -/
theorem rTb.at {s : rS} {R N r n : Nat} (h : rTb s R N) (hr : r < 6) (hn : n < 8) (f : ¬ s.2 7 (8 * r + n) < 0) : r < R ∧ ¬ s.2 6 r = 0 ∧ n < N ∧ ((rHas s r n = true ∧ s.2 7 (8 * r + n) = 0 ∧ s.2 8 (8 * r + n) = -1 ∧ s.2 9 (8 * r + n) = nI n ∧ s.2 10 (8 * r + n) = 0) ∨ (rHas s r n = false ∧ ∃ d t p h, 1 ≤ d ∧ d ≤ 15 ∧ s.2 7 (8 * r + n) = nI d ∧ t < R ∧ s.2 8 (8 * r + n) = nI t ∧ p < 8 ∧ s.2 9 (8 * r + n) = nI p ∧ rHas s r p = true ∧ h ≤ 2 ∧ s.2 10 (8 * r + n) = nI h)) := by
  have a := h.1 r n hr hn
  unfold rTb1 at a
  by_cases c : r < R ∧ ¬ s.2 6 r = 0 ∧ rHas s r n = true
  · rw [if_pos c] at a
    exact ⟨c.1, c.2.1, h.2.2 r n c.1 hn c.2.2, Or.inl ⟨c.2.2, a⟩⟩
  · rw [if_neg c] at a
    rcases a with a | a
    · exact absurd a f
    · refine ⟨a.1, a.2.1, a.2.2.1, Or.inr ⟨?_, a.2.2.2⟩⟩
      by_cases g : rHas s r n = true
      · exact absurd ⟨a.1, a.2.1, g⟩ c
      · simpa using g
theorem rTb.own {s : rS} {R N r n : Nat} (h : rTb s R N) (hr : r < R) (hR : R ≤ 6) (hn : n < 8) (o : ¬ s.2 6 r = 0) (f : rHas s r n = true) : s.2 7 (8 * r + n) = 0 ∧ s.2 8 (8 * r + n) = -1 ∧ s.2 9 (8 * r + n) = nI n ∧ s.2 10 (8 * r + n) = 0 := by
  have a := h.1 r n (by omega) hn
  unfold rTb1 at a
  rw [if_pos ⟨hr, o, f⟩] at a
  exact a
/-- the entry of r for n alone has changed -/
theorem rTb.set {s s' : rS} {R N r n : Nat} (h : rTb s R N) (hn : n < 8) (h5 : s'.2 5 = s.2 5) (h6 : s'.2 6 = s.2 6) (ho : ∀ j i, i ≠ 8 * r + n → s'.2 j i = s.2 j i) (h1 : r < 6 → rTb1 s' R N r n) : rTb s' R N := by
  have hh : rHas s' = rHas s := by funext r n; unfold rHas; rw [h5]
  refine ⟨fun r' n' hr' hn' => ?_, fun r hr => by rw [h6]; exact h.2.1 r hr, fun r n hr hn g => h.2.2 r n hr hn (by rw [← hh]; exact g)⟩
  by_cases e : r' = r ∧ n' = n
  · obtain ⟨rfl, rfl⟩ := e
    exact h1 hr'
  · have q : 8 * r' + n' ≠ 8 * r + n := fun z => e (by constructor <;> omega)
    have a := h.1 r' n' hr' hn'
    unfold rTb1 at a ⊢
    rw [ho 7 _ q, ho 8 _ q, ho 9 _ q, ho 10 _ q, h6, hh]
    exact a
/-- what was told: the reference's copy is in order -/
def rOl (s : rS) (R N : Nat) : Prop := ∀ t n, t < 6 → n < 8 → ¬ s.2 12 (8 * t + n) < 0 → t < R ∧ ¬ s.2 6 t = 0 ∧ n < N ∧ ∃ d, d ≤ 15 ∧ s.2 12 (8 * t + n) = nI d
/-- the class's mesh against the reference -/
def cM (A : cA) (v : cV) (s : rS) : Prop := (v 4 0 1 = nI (A 2 0) ∧ v 4 0 3 = nI (A 2 1) ∧ s.1 7 = nI (A 2 0) ∧ s.1 9 = nI (A 2 1)) ∧ (∀ r, r < A 2 1 → v 14 r 2 = s.2 6 r ∧ v 14 r 1 = nI (rPc s r) ∧ ∀ k, k < 8 → v 15 r k = if rHas s r k then 1 else 0) ∧ (∀ r k, r < A 2 1 → k < 8 → cE (v 10 (8 * r + k)) s (8 * r + k)) ∧ rTb s (A 2 1) (A 2 0)
/-- what the class's routers tell against the reference -/
def cTo (A : cA) (v : cV) (s : rS) : Prop := (∀ t n, t < A 2 1 → n < 8 → v 17 t n = (if s.2 12 (8 * t + n) < 0 then -1 else if s.2 14 (8 * t + n) = 2 then 16 else s.2 12 (8 * t + n)) ∧ (¬ s.2 12 (8 * t + n) < 0 → v 18 t n = s.2 13 (8 * t + n))) ∧ rOl s (A 2 1) (A 2 0)
/-- the same but for entries' arrays -/
def rY (s s' : rS) : Prop := (∀ f, f ≠ 21 → s'.1 f = s.1 f) ∧ ∀ j, j ≤ 6 ∨ 16 ≤ j → s'.2 j = s.2 j
theorem rY.rf (s : rS) : rY s s := ⟨fun _ _ => rfl, fun _ _ => rfl⟩
theorem rY.tr {a b c : rS} (h : rY a b) (g : rY b c) : rY a c := ⟨fun f n1 => (g.1 f n1).trans (h.1 f n1), fun j hj => (g.2 j hj).trans (h.2 j hj)⟩
theorem rY.has {s s' : rS} (h : rY s s') (r n : Nat) : rHas s' r n = rHas s r n := by unfold rHas; rw [h.2 5 (by omega)]
theorem rY.pc {s s' : rS} (h : rY s s') (r : Nat) : rPc s' r = rPc s r := cnt_cg 8 (fun k _ => h.has r k)
/-- what a router takes -/
def cSw (g : Nat → Int32) (t p : Int32) : Bool := decide (¬ g 0 = 0) && decide (g 2 = t) && decide (g 3 = p)
def cRm (g : Nat → Int32) : Nat → Int32 := w [0, g 1, g 2, g 3, g 4, 0, g 6]
def cTk (g : Nat → Int32) (x t p : Int32) : Nat → Int32 :=
  if ¬ g 0 = 0 ∧ g 2 = -1 then g
  else if x = 16 then (if cSw g t p then w [g 0, g 1, g 2, g 3, 2, g 5, g 6] else g)
  else if x = 15 then (if cSw g t p then cRm g else g)
  else if g 0 = 0 ∨ g 4 = 2 ∨ x + 1 ≤ g 1 ∨ cSw g t p = true then w [1, x + 1, t, p, 0, g 5, g 6] else g
theorem nI_lti {a b : Nat} (ha : a < 2 ^ 31) (hb : b < 2 ^ 31) : nI a < nI b ↔ a < b :=
  ⟨fun h => Nat.not_le.mp fun z => k2_nlt (nI_le z ha) h, fun h => k2_lt (nI_ge h hb)⟩
theorem nI_lei {a b : Nat} (ha : a < 2 ^ 31) (hb : b < 2 ^ 31) : nI a ≤ nI b ↔ a ≤ b :=
  ⟨fun h => Nat.not_lt.mp fun z => nI_ge z ha h, fun h => nI_le h hb⟩
theorem nI_eqi {a b : Nat} (ha : a < 2 ^ 31) (hb : b < 2 ^ 31) : nI a = nI b ↔ a = b := ⟨nI_inj ha hb, fun h => h ▸ rfl⟩
theorem nI_m1 {a : Nat} (ha : a < 2 ^ 31) : ¬ nI a = -1 := fun z => nI_pos ha (z ▸ by decide)
theorem m1n : ¬ (-1 : Int32) = nI 0 := by decide
