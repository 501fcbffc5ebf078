theorem cM.cg {A : cA} {v v' : cV} {s s' : rS} (h : cM A v s) (k4 : v' 4 0 = v 4 0) (k14 : ∀ r, r < A 2 1 → v' 14 r = v 14 r) (k15 : ∀ r, r < A 2 1 → v' 15 r = v 15 r) (y : rY s s') (e : ∀ r k, r < A 2 1 → k < 8 → cE (v' 10 (8 * r + k)) s' (8 * r + k)) (t : rTb s' (A 2 1) (A 2 0)) : cM A v' s' := by
  obtain ⟨m1, m2, m3, m4⟩ := h
  refine ⟨?_, fun r hr => ?_, e, t⟩
  · rw [k4, y.1 7 (by decide), y.1 9 (by decide)]
    exact m1
  · rw [k14 r hr, k15 r hr, y.2 6 (by decide), y.pc]
    refine ⟨(m2 r hr).1, (m2 r hr).2.1, fun k hk => ?_⟩
    rw [y.has]
    exact (m2 r hr).2.2 k hk
theorem cTo.cg {A : cA} {v v' : cV} {s s' : rS} (h : cTo A v s) (k17 : ∀ r, r < A 2 1 → v' 17 r = v 17 r) (k18 : ∀ r, r < A 2 1 → v' 18 r = v 18 r) (y : rY s s') (o : ∀ i, s'.2 12 i = s.2 12 i ∧ s'.2 13 i = s.2 13 i ∧ s'.2 14 i = s.2 14 i) : cTo A v' s' := by
  refine ⟨fun t n ht hn => ?_, fun t n ht hn => ?_⟩
  · rw [k17 t ht, k18 t ht, (o _).1, (o _).2.1, (o _).2.2]
    exact h.1 t n ht hn
  · rw [(o _).1, y.2 6 (by decide)]
    exact h.2 t n ht hn
theorem rPt_in {F : Nat → Nat → Int32} {s : rS} {j k : Nat} (hk : k < 48) : (rPt F s 0 48).2 j k = F j k := by
  simp only [rPt]
  rw [if_pos (by omega)]
theorem rY.pt {F : Nat → Nat → Int32} {s : rS} {b c : Nat} (h : ∀ j k, j ≤ 6 ∨ 16 ≤ j → F j k = s.2 j k) : rY s (rPt F s b c) := ⟨fun _ _ => rfl, fun j hj => by
  funext k
  simp only [rPt]
  split
  · exact h j k hj
  · rfl⟩
/-- ageing -/
def cAg (g : Nat → Int32) : Nat → Int32 := if g 0 = 0 ∨ g 2 = -1 then g else if g 4 = 2 then cRm g else w [g 0, g 1, g 2, g 3, g 4 + 1, g 5, g 6]
theorem rY.age (s : rS) : rY s (rPt (rAgeF s) s 0 48) := rY.pt (fun j k hj => by simp only [rAgeF]; rw [if_neg (by omega), if_neg (by omega)])
theorem nI_h2 : ∀ h, h ≤ 2 → ¬ nI h = 2 → nI h + 1 = nI (h + 1) ∧ h + 1 ≤ 2 := by
  intro h h1 h2
  refine ⟨nI_1 h, ?_⟩
  have : h ≠ 2 := fun z => h2 (by rw [z]; rfl)
  omega
theorem cE.age {s : rS} {g : Nat → Int32} {R N r n : Nat} (hR : R ≤ 6) (hr : r < R) (hn : n < 8) (hb : rTb s R N) (e : cE g s (8 * r + n)) : cE (cAg g) (rPt (rAgeF s) s 0 48) (8 * r + n) := by
  have hi : 8 * r + n < 48 := by omega
  obtain ⟨e0, e1, e5⟩ := e
  unfold cE
  simp only [rPt_in hi, rAgeF, Nat.reduceEqDiff, if_true, if_false]
  by_cases f : s.2 7 (8 * r + n) < 0
  · have f1 : ¬ 0 < s.2 7 (8 * r + n) := k2_nlt (by have := Int32.le_of_lt f; exact this)
    have z : cAg g = g := by unfold cAg; rw [if_pos (Or.inl (by rw [e0, if_pos f]))]
    rw [z]
    simp only [f1, false_and, if_false]
    exact ⟨e0, e1, e5⟩
  · obtain ⟨a1, a2, a3, a4⟩ := e1 f
    obtain ⟨_, _, _, q⟩ := hb.at (by omega) hn f
    rcases q with ⟨_, q1, q2, q3, q4⟩ | ⟨_, d, t, p, h, q1, q2, q3, q4, q5, q6, q7, q8, q9, q10⟩
    · have f1 : ¬ 0 < s.2 7 (8 * r + n) := by rw [q1]; decide
      have z : cAg g = g := by unfold cAg; rw [if_pos (Or.inr (by rw [a2, q2]))]
      rw [z]
      simp only [f1, false_and, if_false]
      exact ⟨e0, e1, e5⟩
    · have f1 : 0 < s.2 7 (8 * r + n) := by rw [q3]; exact (nI_lti (a := 0) (by decide) (by omega)).mpr (by omega)
      have z0 : ¬ (g 0 = 0 ∨ g 2 = -1) := by
        rintro (z | z)
        · rw [e0, if_neg f] at z; exact absurd z (by decide)
        · rw [a2, q5] at z; exact nI_m1 (by omega) z
      unfold cAg
      rw [if_neg z0]
      by_cases b : s.2 10 (8 * r + n) = 2
      · rw [if_pos (by rw [a4, b])]
        simp [f1, b, cRm, w]
      · rw [if_neg (by rw [a4]; exact b)]
        simp only [f1, b, and_false, if_false, not_false_eq_true, and_true, if_true, f, w, List.getD_cons_zero, List.getD_cons_succ]
        refine ⟨by rw [e0, if_neg f], fun _ => ⟨a1, a2, a3, by rw [a4]⟩, by simpa [f] using e5⟩
theorem rTb.age {s : rS} {R N : Nat} (hb : rTb s R N) : rTb (rPt (rAgeF s) s 0 48) R N := by
  have y := rY.age s
  refine ⟨fun r n hr hn => ?_, fun r hr => by rw [y.2 6 (by decide)]; exact hb.2.1 r hr, fun r n hr hn h => hb.2.2 r n hr hn (by rw [← y.has]; exact h)⟩
  have hi : 8 * r + n < 48 := by omega
  have a := hb.1 r n hr hn
  unfold rTb1 at a ⊢
  simp only [y.has, y.2 6 (by decide), rPt_in hi, rAgeF, Nat.reduceEqDiff, if_true, if_false]
  by_cases c : r < R ∧ ¬ s.2 6 r = 0 ∧ rHas s r n = true
  · rw [if_pos c] at a ⊢
    have f1 : ¬ 0 < s.2 7 (8 * r + n) := by rw [a.1]; decide
    simpa [f1] using a
  · rw [if_neg c] at a ⊢
    rcases a with a | ⟨o1, o2, o3, d, t, p, h, q1, q2, q3, q4, q5, q6, q7, q8, q9, q10⟩
    · have f1 : ¬ 0 < s.2 7 (8 * r + n) := k2_nlt (Int32.le_of_lt a)
      left
      simpa [f1] using a
    · have f1 : 0 < s.2 7 (8 * r + n) := by rw [q3]; exact (nI_lti (a := 0) (by decide) (by omega)).mpr (by omega)
      by_cases b : s.2 10 (8 * r + n) = 2
      · left
        rw [if_pos ⟨f1, b⟩]
        decide
      · right
        rw [if_neg (fun z => b z.2), if_pos ⟨f1, b⟩]
        have hh := nI_h2 h q9 (by rw [← q10]; exact b)
        exact ⟨o1, o2, o3, d, t, p, h + 1, q1, q2, q3, q4, q5, q6, q7, q8, hh.2, by rw [q10, hh.1]⟩
theorem cM.age {A : cA} {v v' : cV} {s : rS} (hR : A 2 1 ≤ 6) (h : cM A v s) (k : ∀ kd, kd ≠ 10 → v' kd = v kd) (k10 : ∀ r n, r < A 2 1 → n < 8 → v' 10 (8 * r + n) = if n < A 2 0 then cAg (v 10 (8 * r + n)) else v 10 (8 * r + n)) : cM A v' (rPt (rAgeF s) s 0 48) := by
  refine h.cg (by rw [k 4 (by decide)]) (fun r _ => by rw [k 14 (by decide)]) (fun r _ => by rw [k 15 (by decide)]) (rY.age s) (fun r n hr hn => ?_) h.2.2.2.age
  have e := (h.2.2.1 r n hr hn).age hR hr hn h.2.2.2
  rw [k10 r n hr hn]
  by_cases hN : n < A 2 0
  · rw [if_pos hN]
    exact e
  · rw [if_neg hN]
    have f : s.2 7 (8 * r + n) < 0 := by
      by_cases f : s.2 7 (8 * r + n) < 0
      · exact f
      · exact absurd (h.2.2.2.at (by omega) hn f).2.2.1 hN
    have z : cAg (v 10 (8 * r + n)) = v 10 (8 * r + n) := by unfold cAg; rw [if_pos (Or.inl (by rw [(h.2.2.1 r n hr hn).1, if_pos f]))]
    rw [z] at e
    exact e
theorem cTo.age {A : cA} {v v' : cV} {s : rS} (h : cTo A v s) (k : ∀ kd, kd ≠ 10 → v' kd = v kd) : cTo A v' (rPt (rAgeF s) s 0 48) := by
  refine h.cg (fun r _ => by rw [k 17 (by decide)]) (fun r _ => by rw [k 18 (by decide)]) (rY.age s) (fun i => ?_)
  simp only [rPt, rAgeF]
  refine ⟨?_, ?_, ?_⟩ <;> split <;> rfl
/-- the copy -/
theorem rY.cp (s : rS) : rY s (rPt (rCpF s) s 0 48) := rY.pt (fun j k hj => by simp only [rCpF]; rw [if_neg (by omega), if_neg (by omega), if_neg (by omega)])
theorem cE.sm {g : Nat → Int32} {s s' : rS} {i : Nat} (h : cE g s i) (e : ∀ j, 7 ≤ j → j ≤ 11 → s'.2 j i = s.2 j i) : cE g s' i := by
  unfold cE at h ⊢
  rw [e 7 (by decide) (by decide), e 8 (by decide) (by decide), e 9 (by decide) (by decide), e 10 (by decide) (by decide), e 11 (by decide) (by decide)]
  exact h
theorem rTb.sm {s s' : rS} {R N : Nat} (h : rTb s R N) (h5 : s'.2 5 = s.2 5) (h6 : s'.2 6 = s.2 6) (e : ∀ j i, 7 ≤ j → j ≤ 10 → i < 48 → s'.2 j i = s.2 j i) : rTb s' R N := by
  have hh : rHas s' = rHas s := by funext r n; unfold rHas; rw [h5]
  refine ⟨fun r n hr hn => ?_, fun r hr => by rw [h6]; exact h.2.1 r hr, fun r n hr hn g => h.2.2 r n hr hn (by rw [← hh]; exact g)⟩
  have a := h.1 r n hr hn
  have hi : 8 * r + n < 48 := by omega
  unfold rTb1 at a ⊢
  rw [hh, h6, e 7 _ (by decide) (by decide) hi, e 8 _ (by decide) (by decide) hi, e 9 _ (by decide) (by decide) hi, e 10 _ (by decide) (by decide) hi]
  exact a
theorem cM.cp {A : cA} {v v' : cV} {s : rS} (hR : A 2 1 ≤ 6) (h : cM A v s) (k : ∀ kd, kd ≠ 17 → kd ≠ 18 → v' kd = v kd) (k17 : ∀ t n, t < A 2 1 → n < 8 → v' 17 t n = (if s.2 7 (8 * t + n) < 0 then -1 else if s.2 10 (8 * t + n) = 2 then 16 else s.2 7 (8 * t + n)) ∧ (¬ s.2 7 (8 * t + n) < 0 → v' 18 t n = s.2 9 (8 * t + n))) :
    cM A v' (rPt (rCpF s) s 0 48) ∧ cTo A v' (rPt (rCpF s) s 0 48) := by
  have nine : ∀ j i, 7 ≤ j → j ≤ 11 → (rPt (rCpF s) s 0 48).2 j i = s.2 j i := by
    intro j i h1 h2
    simp only [rPt, rCpF]
    split
    · rw [if_neg (by omega), if_neg (by omega), if_neg (by omega)]
    · rfl
  refine ⟨h.cg (by rw [k 4 (by decide) (by decide)]) (fun r _ => by rw [k 14 (by decide) (by decide)]) (fun r _ => by rw [k 15 (by decide) (by decide)]) (rY.cp s) (fun r n hr hn => ?_) (h.2.2.2.sm ((rY.cp s).2 5 (by decide)) ((rY.cp s).2 6 (by decide)) (fun j i h1 h2 _ => nine j i h1 (by omega))), ?_, ?_⟩
  · rw [k 10 (by decide) (by decide)]
    exact (h.2.2.1 r n hr hn).sm (fun j h1 h2 => nine j _ h1 h2)
  · intro t n ht hn
    have hi : 8 * t + n < 48 := by omega
    simp only [rPt_in hi, rCpF, Nat.reduceEqDiff, if_true, if_false]
    exact k17 t n ht hn
  · intro t n ht hn
    have hi : 8 * t + n < 48 := by omega
    rw [(rY.cp s).2 6 (by decide)]
    simp only [rPt_in hi, rCpF, if_true]
    intro f
    obtain ⟨a1, a2, a3, q⟩ := h.2.2.2.at ht hn f
    refine ⟨a1, a2, a3, ?_⟩
    rcases q with q | ⟨_, d, _, _, _, q1, q2, q3, _⟩
    · exact ⟨0, by decide, by rw [q.2.1]; rfl⟩
    · exact ⟨d, q2, q3⟩
/-- zones -/
def cZk (A : cA) (v : cV) (n : Nat) (g : Nat → Int32) : Int32 := if ¬ g 0 = 0 ∧ g 5 = 0 ∧ ¬ (g 2 < 0 ∨ nI (A 2 1) ≤ g 2) then v 10 (8 * (g 2).toNatClampNeg + n) 5 else g 5
theorem rZ_in {s : rS} {j i : Nat} (hi : i < 48) : (rZones s).2 j i = if j = 11 then (if 0 < s.2 7 i ∧ ¬ (if 8 * (s.2 8 i).toNatClampNeg + i % 8 < 48 then (if ¬ s.2 7 (8 * (s.2 8 i).toNatClampNeg + i % 8) < 0 ∧ ¬ s.2 11 (8 * (s.2 8 i).toNatClampNeg + i % 8) = 0 then 1 else 0) else s.2 15 (8 * (s.2 8 i).toNatClampNeg + i % 8)) = 0 then 1 else s.2 11 i) else if j = 15 then (if ¬ s.2 7 i < 0 ∧ ¬ s.2 11 i = 0 then 1 else 0) else s.2 j i := by
  unfold rZones
  rw [rPt_in hi]
  simp only [rZ2]
  by_cases j11 : j = 11
  · rw [if_pos j11, if_pos j11]
    simp only [rPt_in hi, rZ1, Nat.reduceEqDiff, if_false]
    congr 2
    simp only [rPt, rZ1, if_true]
    by_cases q : 8 * (s.2 8 i).toNatClampNeg + i % 8 < 48
    · rw [if_pos (by omega), if_pos q]
    · rw [if_neg (by omega), if_neg q]
  · rw [if_neg j11, if_neg j11, rPt_in hi]
    simp only [rZ1]
theorem rY.zn (s : rS) : rY s (rZones s) := by
  unfold rZones
  refine (rY.pt (F := rZ1 s) (b := 0) (c := 48) (fun j k hj => ?_)).tr (rY.pt (fun j k hj => ?_))
  · simp only [rZ1]; rw [if_neg (by omega)]
  · simp only [rZ2]; rw [if_neg (by omega)]
theorem cM.zn {A : cA} {v v' : cV} {s : rS} (hR : A 2 1 ≤ 6) (h : cM A v s) (k : ∀ kd, kd ≠ 10 → v' kd = v kd) (k10 : ∀ r n, r < A 2 1 → n < 8 → v' 10 (8 * r + n) = if n < A 2 0 then w [v 10 (8 * r + n) 0, v 10 (8 * r + n) 1, v 10 (8 * r + n) 2, v 10 (8 * r + n) 3, v 10 (8 * r + n) 4, cZk A v n (v 10 (8 * r + n)), v 10 (8 * r + n) 5] else v 10 (8 * r + n)) : cM A v' (rZones s) := by
  refine h.cg (by rw [k 4 (by decide)]) (fun r _ => by rw [k 14 (by decide)]) (fun r _ => by rw [k 15 (by decide)]) (rY.zn s) (fun r n hr hn => ?_) (h.2.2.2.sm ((rY.zn s).2 5 (by decide)) ((rY.zn s).2 6 (by decide)) (fun j i h1 h2 hi => by rw [rZ_in hi, if_neg (by omega), if_neg (by omega)]))
  have hi : 8 * r + n < 48 := by omega
  have e := h.2.2.1 r n hr hn
  rw [k10 r n hr hn]
  unfold cE
  simp only [rZ_in hi, Nat.reduceEqDiff, if_true, if_false]
  by_cases f : s.2 7 (8 * r + n) < 0
  · have f1 : ¬ 0 < s.2 7 (8 * r + n) := k2_nlt (Int32.le_of_lt f)
    have z : cZk A v n (v 10 (8 * r + n)) = v 10 (8 * r + n) 5 := by unfold cZk; rw [if_neg (fun z => z.1 (by rw [e.1, if_pos f]))]
    have z5 : v 10 (8 * r + n) 5 = 0 := by rw [e.2.2, if_neg (fun z => z.1 f)]
    by_cases hN : n < A 2 0
    · rw [if_pos hN, z]
      simp [w, f, z5, e.1]
    · rw [if_neg hN]
      simp [f, z5, e.1]
  · obtain ⟨a1, a2, a3, a4⟩ := e.2.1 f
    obtain ⟨_, _, hN, q⟩ := h.2.2.2.at (by omega) hn f
    rw [if_pos hN]
    simp only [w, List.getD_cons_zero, List.getD_cons_succ]
    refine ⟨e.1, fun _ => ⟨a1, a2, a3, a4⟩, ?_⟩
    have e0 : ¬ v 10 (8 * r + n) 0 = 0 := by rw [e.1, if_neg f]; decide
    unfold cZk
    rcases q with ⟨_, q1, q2, q3, q4⟩ | ⟨_, d, t, p, hh, q1, q2, q3, q4, q5, q6, q7, q8, q9, q10⟩
    · have f1 : ¬ 0 < s.2 7 (8 * r + n) := by rw [q1]; decide
      rw [if_neg (fun z => z.2.2 (Or.inl (by rw [a2, q2]; decide)))]
      simp only [f1, false_and, if_false]
      exact e.2.2
    · have f1 : 0 < s.2 7 (8 * r + n) := by rw [q3]; exact (nI_lti (a := 0) (by decide) (by omega)).mpr (by omega)
      have g2 : ¬ (v 10 (8 * r + n) 2 < 0 ∨ nI (A 2 1) ≤ v 10 (8 * r + n) 2) := by
        rw [a2, q5]
        rintro (z | z)
        · exact nI_pos (by omega) z
        · exact nI_ge q4 (by omega) z
      have cl : (s.2 8 (8 * r + n)).toNatClampNeg = t := by rw [q5, nI_clamp (by omega)]
      rw [a2, cl, show (8 * r + n) % 8 = n by omega, if_pos (show 8 * t + n < 48 by omega)]
      have et := (h.2.2.1 t n q4 hn).2.2
      rw [et]
      rw [← a2]
      by_cases k0 : s.2 11 (8 * r + n) = 0
      · have z5 : v 10 (8 * r + n) 5 = 0 := by rw [e.2.2, if_neg (fun z => z.2 k0)]
        rw [if_pos ⟨e0, z5, g2⟩]
        by_cases kt : ¬ s.2 7 (8 * t + n) < 0 ∧ ¬ s.2 11 (8 * t + n) = 0
        · simp [kt, f1, f]
        · rw [if_neg kt]
          simp [f, k0]
      · have z5 : v 10 (8 * r + n) 5 = 1 := by rw [e.2.2, if_pos ⟨f, k0⟩]
        rw [if_neg (fun z => absurd (z5 ▸ z.2.1) (by decide)), z5]
        symm
        rw [if_pos]
        refine ⟨f, ?_⟩
        split <;> split <;> first | decide | exact k0
