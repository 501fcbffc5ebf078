/-! the tick's steps on the tables, pure -/
theorem rTake_n {s : rS} {r t p n j : Nat} (h : j ≠ 7 ∧ j ≠ 8 ∧ j ≠ 9 ∧ j ≠ 10 ∧ j ≠ 11) : (rTake s r t p n).2 j = s.2 j := by
  unfold rTake
  split
  · exact up2_n h.2.2.2.1
  · split
    · exact up2_n h.1
    · split
      · dsimp only
        rw [up2_n h.2.2.2.1, up2_n h.2.2.1, up2_n h.2.1, up2_n h.1, up2_n h.2.2.2.2]
      · rfl
theorem rTake_o {s : rS} {r t p n i : Nat} (j : Nat) (h : i ≠ 8 * r + n) : (rTake s r t p n).2 j i = s.2 j i := by
  unfold rTake
  split
  · exact up2_off h
  · split
    · exact up2_off h
    · split
      · dsimp only
        rw [up2_off h, up2_off h, up2_off h, up2_off h, up2_off h]
      · rfl
theorem rY.take (s : rS) (r t p n : Nat) : rY s (rTake s r t p n) := ⟨fun f _ => by rw [rTake_1], fun j hj => rTake_n (by omega)⟩
/-- the entry that may be written -/
theorem cE.take {s : rS} {g : Nat → Int32} {R N r t p n : Nat} (hr : r < R) (hR : R ≤ 6) (ht : t < R) (hn : n < 8) (hp : p < 8) (hb : rTb s R N) (ho : rOl s R N) (e : cE g s (8 * r + n)) (on : ¬ s.2 6 r = 0) (h1 : rHas s r p = true) (hf : ¬ s.2 12 (8 * t + n) < 0) (hw : rHas s r n = false) :
    cE (cTk g (if s.2 14 (8 * t + n) = 2 then 16 else s.2 12 (8 * t + n)) (nI t) (nI p)) (rTake s r t p n) (8 * r + n) ∧ rTb (rTake s r t p n) R N := by
  obtain ⟨_, _, hnN, d, hd, ed⟩ := ho t n (by omega) hn hf
  obtain ⟨e0, e1, e5⟩ := e
  have hT : ∀ k, k < 2 ^ 31 → ¬ nI k < 0 := fun k hk => nI_pos hk
  -- whether it is the same way
  have sw : cSw g (nI t) (nI p) = rHis s r t p n := by
    unfold cSw rHis
    by_cases f : s.2 7 (8 * r + n) < 0
    · simp [e0, f]
    · obtain ⟨a1, a2, a3, a4⟩ := e1 f
      simp [e0, f, a2, a3]
  have nown : ¬ (¬ g 0 = 0 ∧ g 2 = -1) := by
    intro z
    by_cases f : s.2 7 (8 * r + n) < 0
    · exact z.1 (by rw [e0, if_pos f])
    · obtain ⟨_, _, _, q⟩ := hb.at (by omega) hn f
      rcases q with q | ⟨_, d', t', p', h', _, _, _, q4, q5, _⟩
      · rw [hw] at q; exact absurd q.1 (by decide)
      · rw [(e1 f).2.1, q5] at z
        exact nI_m1 (by omega) z.2
  have tb : ∀ s', s' = rTake s r t p n → rTb1 s' R N r n → rTb s' R N := fun s' es h => hb.set hn (by rw [es]; exact rTake_n (by decide)) (by rw [es]; exact rTake_n (by decide)) (fun j i hi => by rw [es]; exact rTake_o j hi) (fun _ => h)
  have hh : rHas (rTake s r t p n) = rHas s := by funext a b; exact (rY.take s r t p n).has a b
  have h6 : (rTake s r t p n).2 6 = s.2 6 := rTake_n (by decide)
  have c0 : ¬ (r < R ∧ ¬ s.2 6 r = 0 ∧ rHas s r n = true) := fun z => by rw [hw] at z; exact absurd z.2.2 (by decide)
  have old := hb.1 r n (by omega) hn
  unfold rTb1 at old
  rw [if_neg c0] at old
  unfold cTk
  rw [if_neg nown, sw]
  by_cases b2 : s.2 14 (8 * t + n) = 2
  · -- it is gone
    have eq : rTake s r t p n = (s.1, up2 s.2 10 (8 * r + n) (if rHis s r t p n then 2 else s.2 10 (8 * r + n))) := by unfold rTake; rw [if_pos b2]
    rw [if_pos b2, if_pos rfl]
    refine ⟨?_, tb _ rfl ?_⟩
    · rw [eq]
      by_cases hs : rHis s r t p n = true
      · have f : ¬ s.2 7 (8 * r + n) < 0 := by
          simp only [rHis, Bool.and_eq_true, decide_eq_true_eq] at hs
          exact hs.1.1
        rw [if_pos hs, if_pos hs]
        exact ⟨by simpa [up2, w] using e0, fun _ => by simpa [up2, w] using ⟨(e1 f).1, (e1 f).2.1, (e1 f).2.2.1⟩, by simpa [up2, w] using e5⟩
      · rw [if_neg hs, if_neg hs]
        exact ⟨by simpa [up2] using e0, fun z => by simpa [up2] using e1 (by simpa [up2] using z), by simpa [up2] using e5⟩
    · unfold rTb1
      rw [h6, hh, if_neg c0, eq]
      simp only [up2_at, Nat.reduceEqDiff, if_false, if_true]
      rcases old with old | ⟨o1, o2, o3, d', t', p', h', o4, o5, o6, o7, o8, o9, o10, o11, o12, o13⟩
      · exact Or.inl old
      · refine Or.inr ⟨o1, o2, o3, d', t', p', if rHis s r t p n then 2 else h', o4, o5, o6, o7, o8, o9, o10, o11, ?_, ?_⟩
        · split <;> omega
        · split
          · rfl
          · exact o13
  · by_cases b15 : d = 15
    · -- as far as can be
      have e15 : s.2 12 (8 * t + n) = 15 := by rw [ed, b15]; rfl
      have eq : rTake s r t p n = (s.1, up2 s.2 7 (8 * r + n) (if rHis s r t p n then -1 else s.2 7 (8 * r + n))) := by unfold rTake; rw [if_neg b2, if_pos e15]
      rw [if_neg b2, e15, if_neg (by decide), if_pos rfl]
      refine ⟨?_, tb _ rfl ?_⟩
      · rw [eq]
        by_cases hs : rHis s r t p n = true
        · rw [if_pos hs, if_pos hs]
          exact ⟨by simp [up2, w, cRm], fun z => absurd (by simp [up2]) z, by simp [up2, w, cRm]⟩
        · rw [if_neg hs, if_neg hs]
          exact ⟨by simpa [up2] using e0, fun z => by simpa [up2] using e1 (by simpa [up2] using z), by simpa [up2] using e5⟩
      · unfold rTb1
        rw [h6, hh, if_neg c0, eq]
        simp only [up2_at, Nat.reduceEqDiff, if_false, if_true]
        by_cases hs : rHis s r t p n = true
        · rw [if_pos hs]
          exact Or.inl (by decide)
        · rw [if_neg hs]
          exact old
    · have n15 : ¬ s.2 12 (8 * t + n) = 15 := fun z => b15 (nI_inj (b := 15) (by omega) (by decide) (ed ▸ z))
      have n16 : ¬ nI d = 16 := fun z => by have := nI_inj (b := 16) (show d < 2 ^ 31 by omega) (by decide) z; omega
      rw [if_neg b2, ed, if_neg n16, if_neg (by rw [← ed]; exact n15)]
      have cc : (g 0 = 0 ∨ g 4 = 2 ∨ nI d + 1 ≤ g 1 ∨ rHis s r t p n = true) ↔ (s.2 7 (8 * r + n) < 0 ∨ s.2 10 (8 * r + n) = 2 ∨ s.2 12 (8 * t + n) < s.2 7 (8 * r + n) ∨ rHis s r t p n = true) := by
        by_cases f : s.2 7 (8 * r + n) < 0
        · simp [e0, f]
        · rcases old with old | ⟨o1, o2, o3, d', t', p', h', o4, o5, o6, o7, o8, o9, o10, o11, o12, o13⟩
          · exact absurd old f
          · rw [(e1 f).1, (e1 f).2.2.2, ed, o6, nI_1, nI_lei (by omega) (by omega), nI_lti (by omega) (by omega)]
            simp [e0, f, o6 ▸ f, Nat.succ_le_iff]
      by_cases tk : s.2 7 (8 * r + n) < 0 ∨ s.2 10 (8 * r + n) = 2 ∨ s.2 12 (8 * t + n) < s.2 7 (8 * r + n) ∨ rHis s r t p n = true
      · rw [if_pos (cc.mpr tk)]
        have eq : rTake s r t p n = (s.1, up2 (up2 (up2 (up2 (up2 s.2 11 (8 * r + n) (if ¬ s.2 7 (8 * r + n) < 0 ∧ ¬ s.2 11 (8 * r + n) = 0 then 1 else 0)) 7 (8 * r + n) (s.2 12 (8 * t + n) + 1)) 8 (8 * r + n) (nI t)) 9 (8 * r + n) (nI p)) 10 (8 * r + n) 0) := by unfold rTake; rw [if_neg b2, if_neg n15, if_pos tk]
        have pp : ¬ nI (d + 1) < 0 := nI_pos (by omega)
        refine ⟨?_, tb _ rfl ?_⟩
        · rw [eq]
          refine ⟨?_, fun _ => ?_, ?_⟩
          · simp [up2, w, ed, nI_1, pp]
          · simp [up2, w, ed, nI_1]
          · simp only [w, List.getD_cons_succ, List.getD_cons_zero, up2_at, Nat.reduceEqDiff, if_false, if_true, ed, nI_1, pp, not_false_eq_true, true_and]
            rw [e5]
            by_cases k : ¬ s.2 7 (8 * r + n) < 0 ∧ ¬ s.2 11 (8 * r + n) = 0
            · simp [k]
            · rw [if_neg k]; simp
        · unfold rTb1
          rw [h6, hh, if_neg c0, eq]
          simp only [up2_at, Nat.reduceEqDiff, if_false, if_true]
          exact Or.inr ⟨hr, on, hnN, d + 1, t, p, 0, by omega, by omega, by rw [ed, nI_1], ht, rfl, hp, rfl, h1, by omega, rfl⟩
      · rw [if_neg (fun z => tk (cc.mp z))]
        have eq : rTake s r t p n = s := by unfold rTake; rw [if_neg b2, if_neg n15, if_neg tk]
        rw [eq]
        exact ⟨⟨e0, e1, e5⟩, hb⟩
/-- one pair taken: the class's mesh goes with the reference -/
theorem cM.take {A : cA} {v : cV} {s : rS} {r t p n : Nat} (hR : A 2 1 ≤ 6) (hr : r < A 2 1) (ht : t < A 2 1) (hn : n < 8) (hp : p < 8) (hm : cM A v s) (ho : cTo A v s) (on : ¬ s.2 6 r = 0) (tr : ¬ t = r) (h1 : rHas s r p = true) (h2 : rHas s t p = true) (k1 : ¬ v 17 t n = -1) (k2 : ¬ v 18 t n = nI p) :
    cM A (uv v 10 (8 * r + n) (cTk (v 10 (8 * r + n)) (v 17 t n) (nI t) (nI p))) (if rTc s r t p n then rTake s r t p n else s) ∧ cTo A (uv v 10 (8 * r + n) (cTk (v 10 (8 * r + n)) (v 17 t n) (nI t) (nI p))) (if rTc s r t p n then rTake s r t p n else s) := by
  obtain ⟨m1, m2, m3, m4⟩ := hm
  have hf : ¬ s.2 12 (8 * t + n) < 0 := fun z => k1 (by rw [(ho.1 t n ht hn).1, if_pos z])
  have e17 : v 17 t n = (if s.2 14 (8 * t + n) = 2 then 16 else s.2 12 (8 * t + n)) := by rw [(ho.1 t n ht hn).1, if_neg hf]
  have e18 := (ho.1 t n ht hn).2 hf
  have ont := (ho.2 t n (by omega) hn hf).2.1
  have ee := m3 r n hr hn
  have key : cE (cTk (v 10 (8 * r + n)) (v 17 t n) (nI t) (nI p)) (if rTc s r t p n then rTake s r t p n else s) (8 * r + n) ∧ rTb (if rTc s r t p n then rTake s r t p n else s) (A 2 1) (A 2 0) := by
    by_cases hw : rHas s r n = true
    · have c : rTc s r t p n = false := by simp [rTc, hw]
      rw [c]
      simp only [Bool.false_eq_true, if_false]
      obtain ⟨o7, o8, o9, o10⟩ := m4.own hr hR hn on hw
      have f : ¬ s.2 7 (8 * r + n) < 0 := by rw [o7]; decide
      have : cTk (v 10 (8 * r + n)) (v 17 t n) (nI t) (nI p) = v 10 (8 * r + n) := by
        unfold cTk
        rw [if_pos ⟨by rw [ee.1, if_neg f]; decide, by rw [(ee.2.1 f).2.1, o8]⟩]
      rw [this]
      exact ⟨ee, m4⟩
    · have hw' : rHas s r n = false := by simpa using hw
      have c : rTc s r t p n = true := by
        simp only [rTc, Bool.and_eq_true, decide_eq_true_eq, Bool.not_eq_true']
        exact ⟨⟨⟨⟨⟨⟨tr, ont⟩, h1⟩, h2⟩, hf⟩, fun z => k2 (e18.trans z)⟩, hw'⟩
      rw [c]
      simp only [if_true]
      rw [e17]
      exact cE.take hr hR ht hn hp m4 ho.2 ee on h1 hf hw'
  have y : rY s (if rTc s r t p n then rTake s r t p n else s) := by
    split
    · exact rY.take s r t p n
    · exact rY.rf s
  have oth : ∀ j i, i ≠ 8 * r + n → (if rTc s r t p n then rTake s r t p n else s).2 j i = s.2 j i := by
    intro j i hi
    split
    · exact rTake_o j hi
    · rfl
  have old : ∀ j, 12 ≤ j → (if rTc s r t p n then rTake s r t p n else s).2 j = s.2 j := by
    intro j hj
    split
    · exact rTake_n (by omega)
    · rfl
  refine ⟨⟨?_, ?_, ?_, key.2⟩, ?_, ?_⟩
  · rw [uv_k (by decide), y.1 7 (by decide), y.1 9 (by decide)]
    exact m1
  · intro r' hr'
    rw [uv_k (by decide), uv_k (by decide), y.2 6 (by decide), y.pc]
    refine ⟨(m2 r' hr').1, (m2 r' hr').2.1, fun k hk => ?_⟩
    rw [y.has]
    exact (m2 r' hr').2.2 k hk
  · intro r' k' hr' hk'
    by_cases e : 8 * r' + k' = 8 * r + n
    · rw [e, uv_s]
      exact key.1
    · rw [uv_n (fun z => e z.2)]
      have := m3 r' k' hr' hk'
      unfold cE at this ⊢
      rw [oth 7 _ e, oth 8 _ e, oth 9 _ e, oth 10 _ e, oth 11 _ e]
      exact this
  · intro t' n' ht' hn'
    rw [uv_k (by decide), uv_k (by decide), old 12 (by decide), old 13 (by decide), old 14 (by decide)]
    exact ho.1 t' n' ht' hn'
  · intro t' n' ht' hn'
    rw [old 12 (by decide), y.2 6 (by decide)]
    exact ho.2 t' n' ht' hn'
/-- nothing is taken -/
theorem rTc_no {s : rS} {r t p n : Nat} (h : rHas s r p = false ∨ rHas s t p = false ∨ s.2 12 (8 * t + n) < 0 ∨ s.2 13 (8 * t + n) = nI p) : rTc s r t p n = false := by
  unfold rTc
  rcases h with h | h | h | h <;> simp [h]
theorem rTn_no {s : rS} {r t p : Nat} (h : rHas s r p = false ∨ rHas s t p = false) : ∀ l n, rTn r t p l n s = s
  | 0, _ => rfl
  | l + 1, n => by
    rw [rTn, rTc_no (by rcases h with h | h <;> simp [h])]
    simpa using rTn_no h l (n + 1)
