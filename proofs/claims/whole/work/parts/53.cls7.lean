/-! texts and names: the class's small letters against the reference's letters -/
theorem sm_sign : ∀ n, n < 128 → rSign (rSm (nI n)) = rSign (nI n) := by decide +kernel
theorem sm_58 : ∀ n, n < 128 → (rSm (nI n) = 58 ↔ nI n = 58) := by decide +kernel
theorem sm_64 : ∀ n, n < 128 → (rSm (nI n) = 64 ↔ nI n = 64) := by decide +kernel
theorem sm_126 : ∀ n, n < 128 → (rSm (nI n) = 126 ↔ nI n = 126) := by decide +kernel
theorem sm_61 : ∀ n, n < 128 → (rSm (nI n) = 61 ↔ nI n = 61) := by decide +kernel
theorem sm_42 : ∀ n, n < 128 → (rSm (nI n) = 42 ↔ nI n = 42) := by decide +kernel
/-- letters that are what they are in small -/
def smx (x : Int32) : Prop := ∀ n, n < 128 → (rSm (nI n) = x ↔ nI n = x)
/-- the letters a .. a + n - 1 of the text, in small -/
def tX (f : Nat → Int32) (s : rS) (a n : Nat) : Prop := ∀ k, k < n → f k = rSm (s.2 1 (a + k)) ∧ rCh (s.2 1 (a + k))
theorem tX.sub {f g : Nat → Int32} {s : rS} {a n i m : Nat} (h : tX f s a n) (hm : i + m ≤ n) (e : ∀ k, k < m → g k = f (i + k)) : tX g s (a + i) m := fun k hk => by
  rw [e k hk, Nat.add_assoc]
  exact h (i + k) (by omega)
theorem tSg {f : Nat → Int32} {s : rS} {a n : Nat} (h : tX f s a n) : ∀ l k c, k + l ≤ n → nSg f l k c = rSg s l (a + k) c
  | 0, _, _, _ => rfl
  | l + 1, k, c, hl => by
    rw [nSg, rSg]
    have e := h k (by omega)
    have es : rSign (f k) = rSign (s.2 1 (a + k)) := by
      obtain ⟨x, hx, ex⟩ := e.2
      rw [e.1, ex]
      exact sm_sign x hx
    rw [es, tSg h l (k + 1) _ (by omega), Nat.add_assoc]
theorem tIx {f : Nat → Int32} {s : rS} {a n : Nat} {x : Int32} (hx : smx x) (h : tX f s a n) : ∀ l k, k + l ≤ n → (jIx f x l k).map (a + ·) = rPl s x l (a + k)
  | 0, _, _ => rfl
  | l + 1, k, hl => by
    rw [jIx, rPl]
    have e := h k (by omega)
    have es : f k = x ↔ s.2 1 (a + k) = x := by
      obtain ⟨y, hy, ey⟩ := e.2
      rw [e.1, ey]
      exact hx y hy
    by_cases c : f k = x
    · rw [if_pos c, if_pos (es.mp c)]
      rfl
    · rw [if_neg c, if_neg (fun z => c (es.mpr z)), tIx hx h l (k + 1) (by omega), Nat.add_assoc]
theorem tNm {f : Nat → Int32} {s : rS} {a n : Nat} (h : tX f s a n) : nNm f n = rNm s a (a + n) := by
  unfold nNm rNm
  rw [tSg h n 0 0 (by omega), Nat.add_zero, Nat.add_sub_cancel_left]
  congr 1
  exact decide_eq_decide.mpr (by omega)
theorem rSg_1 {s : rS} {a : Nat} (h : s.2 1 a = 61) : rSg s 1 a 0 = 1 := by
  rw [rSg, rSg, h]
  rfl
theorem tAny {f : Nat → Int32} {s : rS} {a n : Nat} (h : tX f s a n) : nAny f n = (decide (n = 1) && decide (s.2 1 a = 61)) := by
  unfold nAny
  by_cases c : n = 1
  · have e := h 0 (by omega)
    rw [Nat.add_zero] at e
    obtain ⟨x, hx, ex⟩ := e.2
    simp only [c, decide_true, Bool.true_and]
    rw [e.1, ex]
    exact decide_eq_decide.mpr (sm_61 x hx)
  · simp [c]
theorem tMask {f : Nat → Int32} {s : rS} {a n : Nat} (h : tX f s a n) : nMask f n = rMask s a (a + n) := by
  unfold nMask rMask
  rw [tNm h, tAny h, tSg h n 0 0 (by omega), Nat.add_zero, Nat.add_sub_cancel_left]
  have e : (jIx f 126 n 0).isSome = (rPl s 126 n a).isSome := by
    have := tIx sm_126 h n 0 (by omega)
    rw [Nat.add_zero] at this
    rw [← this, Option.isSome_map]
  rw [e]
  by_cases c0 : rNm s a (a + n) = true
  · simp [c0]
  · have c0' : rNm s a (a + n) = false := by simpa using c0
    rw [c0', Bool.false_or, Bool.false_or]
    by_cases c1 : n = 1
    · subst c1
      by_cases c2 : s.2 1 a = 61
      · rw [rSg_1 c2]
        simp [c2]
      · simp [c2]
    · by_cases c2 : n = 0
      · subst c2
        rw [rSg]
        simp
      · simp [c1, show 0 < n by omega]
/-- the letters of name t, in small -/
def tW (g : Nat → Int32) (s : rS) (t : Nat) : Prop := ∀ k, k < rLn s t → g k = rSm (s.2 2 (32 * t + k))
theorem tStd {f g : Nat → Int32} {s : rS} {a n t i j : Nat} (h : tX f s a n) (h' : tW g s t) : ∀ l k, i + k + l ≤ n → j + k + l ≤ rLn s t → nSame f g i j l k = rStd s t l (a + i + k) (j + k)
  | 0, _, _, _ => rfl
  | l + 1, k, h1, h2 => by
    rw [nSame, rStd, (h (i + k) (by omega)).1, h' (j + k) (by omega), tStd h h' l (k + 1) (by omega) (by omega)]
    simp only [Nat.add_assoc]
theorem jEq_n (f g : Nat → Int32) : ∀ l k, jEq f g l k = nSame f g 0 0 l k
  | 0, _ => rfl
  | l + 1, k => by
    rw [jEq, nSame, jEq_n f g l (k + 1)]
    simp
theorem rSg_up (s : rS) : ∀ l k c, ∃ d, rSg s l k (nI c) = nI d ∧ c ≤ d ∧ d ≤ c + l
  | 0, _, c => ⟨c, rfl, by omega, by omega⟩
  | l + 1, k, c => by
    rw [rSg]
    split
    · rw [nI_1]
      obtain ⟨d, e1, e2, e3⟩ := rSg_up s l (k + 1) (c + 1)
      exact ⟨d, e1, by omega, by omega⟩
    · obtain ⟨d, e1, e2, e3⟩ := rSg_up s l (k + 1) c
      exact ⟨d, e1, e2, by omega⟩
theorem rNm_61 {s : rS} {a n : Nat} (hn : n ≤ 64) (h : rNm s a (a + n) = true) : ¬ rSign (s.2 1 a) = true := by
  unfold rNm at h
  rw [Nat.add_sub_cancel_left] at h
  simp only [Bool.and_eq_true, decide_eq_true_eq] at h
  obtain ⟨h1, h2⟩ := h
  obtain ⟨m, rfl⟩ : ∃ m, n = m + 1 := ⟨n - 1, by omega⟩
  intro z
  rw [rSg, if_pos z, show (0 : Int32) + 1 = nI 1 by decide] at h2
  obtain ⟨d, e1, e2, e3⟩ := rSg_up s m (a + 1) 1
  rw [e1] at h2
  have := nI_inj (b := 0) (by omega) (by omega) h2
  omega
theorem rMask_61 {s : rS} {a n : Nat} (hn : n ≤ 64) (h : rMask s a (a + n) = true) (ht : rPl s 126 n a = none) (he : s.2 1 a = 61) : n = 1 := by
  unfold rMask at h
  rw [Nat.add_sub_cancel_left, ht] at h
  simp only [Bool.or_eq_true, Bool.and_eq_true, decide_eq_true_eq, Option.isSome_none, Bool.false_eq_true, false_or] at h
  rcases h with h | h
  · exact absurd (by rw [he]; decide) (rNm_61 hn h)
  · omega
/-- fits -/
theorem tFits {f g : Nat → Int32} {s : rS} {a n t : Nat} (hn : n ≤ 64) (h : tX f s a n) (h' : tW g s t) (hm : rMask s a (a + n) = true) : nFits f g n (rLn s t) = rFits s a (a + n) t := by
  unfold nFits rFits
  have e := tIx sm_126 h n 0 (by omega)
  rw [Nat.add_zero] at e
  rw [Nat.add_sub_cancel_left, ← e]
  cases hj : jIx f 126 n 0 with
  | none =>
    dsimp only [Option.map]
    rw [hj] at e
    have e' : rPl s 126 n a = none := e.symm
    rw [tAny h]
    have c1 : (decide (n = 1) && decide (s.2 1 a = 61)) = decide (s.2 1 a = 61) := by
      by_cases q : s.2 1 a = 61
      · simp [q, rMask_61 hn hm e' q]
      · simp [q]
    rw [c1]
    congr 1
    by_cases q : n = rLn s t
    · have : jEq f g n 0 = rStd s t n a 0 := by
        rw [jEq_n, tStd h h' n 0 (by omega) (by omega)]
        rfl
      unfold rStands
      rw [this, Nat.add_sub_cancel_left]
      simp [q]
    · simp [q, show ¬ rLn s t = n from fun z => q z.symm]
  | some x =>
    dsimp only [Option.map]
    have hx := jIx_lt _ _ _ _ _ hj
    rw [show a + x - a = x by omega, show a + n - (a + x) - 1 = n - x - 1 by omega]
    by_cases c : x + (n - x - 1) ≤ rLn s t
    · unfold rStands
      rw [tStd h h' x 0 (by omega) (by omega), tStd h h' (n - x - 1) 0 (by omega) (by omega), show a + x - a = x by omega, show a + n - (a + x + 1) = n - x - 1 by omega, Nat.add_zero, Nat.add_zero, Nat.add_zero, Nat.add_zero]
      simp [c, show x ≤ rLn s t by omega, show rLn s t - (n - x - 1) + (n - x - 1) ≤ rLn s t by omega, Nat.add_assoc]
    · simp [c]
/-- the same zone -/
theorem rSaN_f (s : rS) (x y : Nat) : ∀ l k, rSaN s x y l k false = false
  | 0, _ => rfl
  | l + 1, k => by rw [rSaN]; rfl
theorem tSaN {f g : Nat → Int32} {s : rS} {x y : Nat} (h : tW f s x) (h' : tW g s y) (e : rLn s x = rLn s y) : ∀ l k, k + l ≤ rLn s x → nSame g f 0 0 l k = rSaN s x y l k true
  | 0, _, _ => rfl
  | l + 1, k, hl => by
    rw [nSame, rSaN, Nat.zero_add, h k (by omega), h' k (by omega)]
    rw [if_pos rfl]
    by_cases c : rSm (s.2 2 (32 * y + k)) = rSm (s.2 2 (32 * x + k))
    · rw [if_pos c, tSaN h h' e l (k + 1) (by omega), decide_eq_true c.symm]
    · rw [if_neg c, decide_eq_false (fun z => c z.symm), rSaN_f]
/-- zone of x (there) against zone of y (here) -/
theorem tSame {f g : Nat → Int32} {s : rS} {x y : Nat} (h : tW f s x) (h' : tW g s y) : (decide (rLn s y = rLn s x) && jEq g f (rLn s y) 0) = rSame s x y := by
  unfold rSame
  by_cases e : rLn s x = rLn s y
  · rw [jEq_n, decide_eq_true e, decide_eq_true e.symm, ← e, tSaN h h' e _ 0 (by omega)]
    rfl
  · rw [decide_eq_false e, decide_eq_false (fun z => e z.symm), rSaN_f]
    rfl
theorem tZm {f g : Nat → Int32} {s : rS} {p Z b : Nat} (hp : p ≤ Z) (h : tX f s p (Z - p)) (h' : tW g s b) : (decide (Z - p = rLn s b) && jEq f g (Z - p) 0) = (decide (rLn s b = Z - p) && rStands s b 0 p Z) := by
  by_cases e : rLn s b = Z - p
  · unfold rStands
    rw [jEq_n, tStd h h' (Z - p) 0 (by omega) (by omega)]
    simp [e]
  · simp [e, show ¬ Z - p = rLn s b from fun z => e z.symm]
