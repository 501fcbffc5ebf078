/-! pairs counted; a router turned; a network, a router added -/
def eP (s : rS) (i : Nat) : Nat := if s.2 7 i < 0 then 0 else rPc s (i / 8) - 1
def sumE (s : rS) : Nat → Nat
  | 0 => 0
  | n + 1 => sumE s n + eP s n
theorem rCpP_c (s : rS) (k c : Nat) : ∀ l p, rCpP s k l p (c + cnt (rCpT s k) p) = c + cnt (rCpT s k) (p + l)
  | 0, p => rfl
  | l + 1, p => by
    rw [rCpP]
    have : (if rCpT s k p = true then c + cnt (rCpT s k) p + 1 else c + cnt (rCpT s k) p) = c + cnt (rCpT s k) (p + 1) := by
      rw [cnt]
      split <;> omega
    rw [this, rCpP_c s k c l (p + 1), show p + 1 + l = p + (l + 1) by omega]
theorem rCpP_e {s : rS} {R N i c : Nat} (hb : rTb s R N) (hi : i < 48) : rCpP s i 8 0 c = c + eP s i := by
  have a := rCpP_c s i c 8 0
  rw [show cnt (rCpT s i) 0 = 0 from rfl, Nat.add_zero, Nat.zero_add] at a
  rw [a]
  congr 1
  unfold eP
  by_cases f : s.2 7 i < 0
  · rw [if_pos f]
    exact cnt_0 8 (fun k _ => by simp [rCpT, f])
  · rw [if_neg f]
    obtain ⟨r, n, hr, hn, rfl⟩ : ∃ r n, r < 6 ∧ n < 8 ∧ i = 8 * r + n := ⟨i / 8, i % 8, by omega, by omega, by omega⟩
    rw [show (8 * r + n) / 8 = r by omega]
    obtain ⟨_, _, _, q⟩ := hb.at hr hn f
    obtain ⟨p, hp, ep, hh⟩ : ∃ p, p < 8 ∧ s.2 9 (8 * r + n) = nI p ∧ rHas s r p = true := by
      rcases q with q | ⟨_, d, t, p, h, q1, q2, q3, q4, q5, q6, q7, q8, q9⟩
      · exact ⟨n, hn, q.2.2.2.1, q.1⟩
      · exact ⟨p, q6, q7, q8⟩
    have := cnt_del hh 8 hp
    unfold rPc
    rw [this, Nat.add_sub_cancel]
    refine cnt_cg 8 (fun k hk => ?_)
    unfold rCpT
    rw [show (8 * r + n) / 8 = r by omega, ep]
    have : (nI p = nI k) ↔ k = p := by rw [nI_eqi (by omega) (by omega)]; exact ⟨fun z => z.symm, fun z => z.symm⟩
    simp [f, this]
theorem rCpK_e {s : rS} {R N : Nat} (hb : rTb s R N) : ∀ l k, k + l ≤ 48 → rCpK s l k (sumE s k) = sumE s (k + l)
  | 0, k, _ => rfl
  | l + 1, k, h => by
    rw [rCpK, rCpP_e hb (by omega)]
    have := rCpK_e hb l (k + 1) (by omega)
    rw [show sumE s (k + 1) = sumE s k + eP s k from rfl] at this
    rw [this, show k + 1 + l = k + (l + 1) by omega]
theorem sumE_R {s : rS} {R N : Nat} (hb : rTb s R N) : ∀ l, 8 * R + l ≤ 48 → sumE s (8 * R + l) = sumE s (8 * R)
  | 0, _ => rfl
  | l + 1, h => by
    rw [show 8 * R + (l + 1) = 8 * R + l + 1 by omega, sumE, sumE_R hb l (by omega)]
    have : eP s (8 * R + l) = 0 := by
      unfold eP
      rw [if_pos]
      by_cases f : s.2 7 (8 * R + l) < 0
      · exact f
      · have e : 8 * R + l = 8 * ((8 * R + l) / 8) + (8 * R + l) % 8 := by omega
        rw [e] at f
        have := (hb.at (by omega) (by omega) f).1
        omega
    omega
theorem rCpK_R {s : rS} {R N : Nat} (hb : rTb s R N) (hR : R ≤ 6) : rCpK s 48 0 0 = sumE s (8 * R) := by
  have a := rCpK_e hb 48 0 (by decide)
  have b := sumE_R hb (48 - 8 * R) (by omega)
  rw [show 8 * R + (48 - 8 * R) = 48 by omega] at b
  rw [← b]
  exact a
theorem rPc_le (s : rS) (r : Nat) : rPc s r ≤ 8 := cnt_le _ 8
theorem sumE_le (s : rS) : ∀ n, sumE s n ≤ 8 * n
  | 0 => Nat.le_refl 0
  | n + 1 => by
    have a := sumE_le s n
    have b := rPc_le s (n / 8)
    have : eP s n ≤ 8 := by unfold eP; split <;> omega
    rw [sumE]
    omega
/-- a router turned -/
def cOw (n : Nat) (g : Nat → Int32) : Nat → Int32 := w [1, 0, -1, nI n, 0, 1, g 6]
theorem rFresh_in {s : rS} {r n j : Nat} (hn : n < 8) : (rFresh s r).2 j (8 * r + n) = rFrF s r j (8 * r + n) := by
  unfold rFresh
  simp only [rPt]
  rw [if_pos (by omega)]
theorem rFresh_out {s : rS} {r i j : Nat} (h : ¬ (8 * r ≤ i ∧ i < 8 * r + 8)) : (rFresh s r).2 j i = s.2 j i := by
  unfold rFresh
  simp only [rPt]
  rw [if_neg h]
theorem rFresh_n {s : rS} {r j : Nat} (h : j < 7 ∨ 11 < j) : (rFresh s r).2 j = s.2 j := by
  funext i
  unfold rFresh
  simp only [rPt]
  split
  · simp only [rFrF]
    rw [if_neg (by omega), if_neg (by omega), if_neg (by omega), if_neg (by omega), if_neg (by omega)]
  · rfl
theorem rTb.turn {s : rS} {R N r : Nat} {y : Int32} (h : rTb s R N) (hr : r < R) (hR : R ≤ 6) (hy : y = 0 ∨ y = 1) : rTb (rFresh (s.1, up2 s.2 6 r y) r) R N := by
  have h5 : (rFresh (s.1, up2 s.2 6 r y) r).2 5 = s.2 5 := by rw [rFresh_n (by decide)]; show up2 s.2 6 r y 5 = s.2 5; exact up2_n (by decide)
  have h6 : (rFresh (s.1, up2 s.2 6 r y) r).2 6 = fun i => if i = r then y else s.2 6 i := by rw [rFresh_n (by decide)]; funext i; exact up2_s s.2 6 r y i
  have hh : rHas (rFresh (s.1, up2 s.2 6 r y) r) = rHas s := by funext a b; unfold rHas; rw [h5]
  refine ⟨fun r' n hr' hn => ?_, fun r' hr' => ?_, fun r' n hr' hn g => h.2.2 r' n hr' hn (by rw [← hh]; exact g)⟩
  · have a := h.1 r' n hr' hn
    unfold rTb1 at a ⊢
    rw [hh, h6]
    by_cases e : r' = r
    · subst e
      have ho : rOwn (s.1, up2 s.2 6 r' y) r' n = (decide (¬ y = 0) && rHas s r' n) := by
        have q : up2 s.2 6 r' y 6 r' = y := by rw [up2_s, if_pos rfl]
        have q5 : rHas (s.1, up2 s.2 6 r' y) r' n = rHas s r' n := by simp only [rHas, up2, Nat.reduceEqDiff, if_false]
        unfold rOwn
        simp only [q, q5]
      simp only [rFresh_in hn, rFrF, Nat.add_sub_cancel_left, Nat.reduceEqDiff, if_true, if_false, ho]
      by_cases c : r' < R ∧ ¬ y = 0 ∧ rHas s r' n = true
      · rw [if_pos c]
        simp [c]
      · rw [if_neg c, if_neg (by simpa [hr] using c)]
        left
        decide
    · have q : ∀ j, (rFresh (s.1, up2 s.2 6 r y) r).2 j (8 * r' + n) = up2 s.2 6 r y j (8 * r' + n) := fun j => rFresh_out (by omega)
      simp only [q, up2, Nat.reduceEqDiff, if_false, e]
      exact a
  · rw [h6]
    dsimp only
    split
    · exact hy
    · exact h.2.1 r' hr'
theorem cM.turn {A : cA} {v v' : cV} {s : rS} {r : Nat} {y : Int32} (hR : A 2 1 ≤ 6) (hr : r < A 2 1) (hy : y = 0 ∨ y = 1) (h : cM A v s) (k : ∀ kd, kd ≠ 10 → kd ≠ 14 → v' kd = v kd) (k14 : ∀ r', r' ≠ r → v' 14 r' = v 14 r') (k14r : v' 14 r 1 = v 14 r 1 ∧ v' 14 r 2 = y)
    (k10o : ∀ i, ¬ (8 * r ≤ i ∧ i < 8 * r + 8) → v' 10 i = v 10 i) (k10 : ∀ n, n < 8 → v' 10 (8 * r + n) = if ¬ y = 0 ∧ ¬ v 15 r n = 0 then cOw n (v 10 (8 * r + n)) else cRm (v 10 (8 * r + n))) : cM A v' (rFresh (s.1, up2 s.2 6 r y) r) := by
  have tb := h.2.2.2.turn (y := y) hr hR hy
  obtain ⟨m1, m2, m3, m4⟩ := h
  have h5 : (rFresh (s.1, up2 s.2 6 r y) r).2 5 = s.2 5 := by rw [rFresh_n (by decide)]; show up2 s.2 6 r y 5 = s.2 5; exact up2_n (by decide)
  have h6 : (rFresh (s.1, up2 s.2 6 r y) r).2 6 = fun i => if i = r then y else s.2 6 i := by rw [rFresh_n (by decide)]; funext i; exact up2_s s.2 6 r y i
  have hh : rHas (rFresh (s.1, up2 s.2 6 r y) r) = rHas s := by funext a b; unfold rHas; rw [h5]
  have pc : ∀ r', rPc (rFresh (s.1, up2 s.2 6 r y) r) r' = rPc s r' := fun r' => by unfold rPc; rw [hh]
  refine ⟨by rw [k 4 (by decide) (by decide)]; exact m1, fun r' hr' => ?_, fun r' n hr' hn => ?_, tb⟩
  · rw [k 15 (by decide) (by decide), h6, hh, pc]
    dsimp only
    by_cases e : r' = r
    · subst e
      rw [if_pos rfl]
      exact ⟨k14r.2, k14r.1.trans (m2 r' hr).2.1, (m2 r' hr).2.2⟩
    · rw [if_neg e, k14 r' e]
      exact m2 r' hr'
  · by_cases e : r' = r
    · subst e
      have ho : rOwn (s.1, up2 s.2 6 r' y) r' n = (decide (¬ y = 0) && rHas s r' n) := by
        have q : up2 s.2 6 r' y 6 r' = y := by rw [up2_s, if_pos rfl]
        have q5 : rHas (s.1, up2 s.2 6 r' y) r' n = rHas s r' n := by simp only [rHas, up2, Nat.reduceEqDiff, if_false]
        unfold rOwn
        simp only [q, q5]
      rw [k10 n hn]
      unfold cE
      simp only [rFresh_in hn, rFrF, Nat.add_sub_cancel_left, Nat.reduceEqDiff, if_true, if_false, ho]
      have p15 : (¬ v 15 r' n = 0) ↔ rHas s r' n = true := by
        rw [(m2 r' hr).2.2 n hn]
        split
        · next z => simp [z]
        · next z => simp [z]
      by_cases c : ¬ y = 0 ∧ rHas s r' n = true
      · rw [if_pos ⟨c.1, p15.mpr c.2⟩]
        simp [c, cOw, w]
      · rw [if_neg (fun z => c ⟨z.1, p15.mp z.2⟩)]
        have c' : (decide (¬ y = 0) && rHas s r' n) = false := by
          rw [Bool.eq_false_iff]
          intro z
          simp only [Bool.and_eq_true, decide_eq_true_eq] at z
          exact c z
        rw [c']
        simp [cRm, w]
    · rw [k10o _ (by omega)]
      refine (m3 r' n hr' hn).sm (fun j h1 h2 => ?_)
      rw [rFresh_out (by omega)]
      exact congrFun (up2_n (by omega)) _
theorem rTb.N {s s' : rS} {R N : Nat} (h : rTb s R N) (e : ∀ j, 5 ≤ j → j ≤ 10 → s'.2 j = s.2 j) : rTb s' R (N + 1) := by
  have hh : rHas s' = rHas s := by funext r n; unfold rHas; rw [e 5 (by decide) (by decide)]
  refine ⟨fun r n hr hn => ?_, fun r hr => by rw [e 6 (by decide) (by decide)]; exact h.2.1 r hr, fun r n hr hn g => by have := h.2.2 r n hr hn (by rw [← hh]; exact g); omega⟩
  have a := h.1 r n hr hn
  unfold rTb1 at a ⊢
  rw [hh, e 6 (by decide) (by decide), e 7 (by decide) (by decide), e 8 (by decide) (by decide), e 9 (by decide) (by decide), e 10 (by decide) (by decide)]
  by_cases c : r < R ∧ ¬ s.2 6 r = 0 ∧ rHas s r n = true
  · rw [if_pos c] at a ⊢
    exact a
  · rw [if_neg c] at a ⊢
    rcases a with a | ⟨a1, a2, a3, a4⟩
    · exact Or.inl a
    · exact Or.inr ⟨a1, a2, by omega, a4⟩
/-- a router that is off -/
theorem rTb.R {s s' : rS} {R N : Nat} (h : rTb s R N) (hR : R < 6) (e5 : ∀ r, r ≠ R → s'.2 5 r = s.2 5 r) (e6 : ∀ r, r ≠ R → s'.2 6 r = s.2 6 r) (e6' : s'.2 6 R = 0) (e : ∀ j, 7 ≤ j → j ≤ 10 → s'.2 j = s.2 j) (hN : ∀ n, n < 8 → rHas s' R n = true → n < N) : rTb s' (R + 1) N := by
  have hh : ∀ r, r ≠ R → ∀ n, rHas s' r n = rHas s r n := fun r hr n => by unfold rHas; rw [e5 r hr]
  refine ⟨fun r n hr hn => ?_, fun r hr => ?_, fun r n hr hn g => ?_⟩
  · have a := h.1 r n hr hn
    unfold rTb1 at a ⊢
    rw [e 7 (by decide) (by decide), e 8 (by decide) (by decide), e 9 (by decide) (by decide), e 10 (by decide) (by decide)]
    by_cases q : r = R
    · subst q
      rw [e6', if_neg (fun z => z.2.1 rfl)]
      rw [if_neg (fun z => absurd z.1 (by omega))] at a
      rcases a with a | a
      · exact Or.inl a
      · omega
    · rw [e6 r q, hh r q n]
      by_cases c : r < R ∧ ¬ s.2 6 r = 0 ∧ rHas s r n = true
      · rw [if_pos c] at a
        rw [if_pos ⟨by omega, c.2⟩]
        exact a
      · rw [if_neg c] at a
        rcases a with a | ⟨a1, a2, a3, d, t, p, hx, q1, q2, q3, q4, q5, q6, q7, q8, q9⟩
        · by_cases c2 : r < R + 1 ∧ ¬ s.2 6 r = 0 ∧ rHas s r n = true
          · exact absurd ⟨by omega, c2.2⟩ c
          · rw [if_neg c2]
            exact Or.inl a
        · rw [if_neg (fun z => c ⟨a1, z.2⟩)]
          exact Or.inr ⟨by omega, a2, a3, d, t, p, hx, q1, q2, q3, by omega, q5, q6, q7, by rw [hh r q]; exact q8, q9⟩
  · by_cases q : r = R
    · subst q
      exact Or.inl e6'
    · rw [e6 r q]
      exact h.2.1 r (by omega)
  · by_cases q : r = R
    · subst q
      exact hN n hn g
    · exact h.2.2 r n (by omega) hn (by rw [← hh r q]; exact g)
