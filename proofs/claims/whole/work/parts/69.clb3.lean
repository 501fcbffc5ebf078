/-! the whole relation -/
/-- the text -/
def cTx (A : cA) (v : cV) (s : rS) : Prop := ∃ Z, Z ≤ 32 ∧ s.1 4 = nI Z ∧ v 23 0 3 = nI Z ∧ (v 23 0 2 = 0 ∨ v 23 0 2 = 1) ∧ (A 1 1 = 16 ∨ A 1 1 = 34) ∧ Z ≤ A 1 1 ∧ (∀ k, k < A 1 1 → rCh (v 24 0 k)) ∧ ∀ k, k < Z → v 24 0 k = rSm (s.2 1 k)
/-- which names there are -/
def nlv (A : cA) (t : Nat) : Prop := t < A 2 0 ∨ (8 ≤ t ∧ t < 8 + A 2 2) ∨ (24 ≤ t ∧ t < 24 + A 2 2)
def cNm (nx : Nat) (M : xM) (A : cA) (s : rS) : Prop := ∀ t, nlv A t → ∃ g, jS M (A 7 t) (A 8 t) (rLn s t) g ∧ tW g s t ∧ ¬ ccl A (A 7 t) ∧ ¬ ccl A (A 8 t) ∧ A 7 t < nx ∧ A 8 t < nx
def cFo (v : cV) (s : rS) : Prop := v 0 0 11 = s.1 33 ∧ v 1 0 = s.2 25 ∧ ∃ F, F ≤ 16 ∧ s.1 33 = nI F
/-- what seldom changes: homes, clients; what is not yet made is 0 -/
def cH (A : cA) (s : rS) : Prop := rJ s ∧ (∀ i, i < A 2 2 → ∃ b, b < 64 ∧ s.2 16 i = nI b ∧ b / 8 < A 2 0) ∧ (∀ c, c < A 2 3 → ∃ a, a < 64 ∧ s.2 26 c = nI a ∧ s.2 27 c = nI (A 10 c)) ∧ (∀ c, A 2 3 ≤ c → c < 12 → ∀ j, 28 ≤ j → j ≤ 37 → s.2 j c = 0) ∧ ∀ i, A 2 2 ≤ i → i < 16 → s.2 17 i = 0 ∧ (∀ k, k < 4 → s.2 18 (4 * i + k) = 0) ∧ s.2 19 i = 0 ∧ s.2 20 i = 0
def cW (E : xE) (nx : Nat) (M : xM) (A : cA) (v : cV) (s : rS) : Prop := cR E nx M M A v ∧ cQ A v s ∧ cNd A v s ∧ cTx A v s ∧ cNm nx M A s ∧ cFo v s ∧ cH A s ∧ rLt s ∧ xb E ≤ nx
theorem jS.mv {M M' : xM} {a p n : Nat} {f : Nat → Int32} (h : jS M a p n f) (ea : M' a = M a) (ep : M' p = M p) : jS M' a p n f := ⟨by rw [ea]; exact h.1, by rw [ep]; exact h.2.1, h.2.2⟩
theorem tW.sm {g : Nat → Int32} {s s' : rS} {t : Nat} (h : tW g s t) (e2 : s'.2 2 = s.2 2) (e3 : s'.2 3 = s.2 3) : tW g s' t := by
  unfold tW rLn at *
  rw [e2, e3]
  exact h
theorem rLn_sm {s s' : rS} (e3 : s'.2 3 = s.2 3) (t : Nat) : rLn s' t = rLn s t := by unfold rLn; rw [e3]
theorem cNm.st {nx : Nat} {M M' : xM} {A : cA} {s s' : rS} (h : cNm nx M A s) (f : ∀ q, ¬ ccl A q → M' q = M q) (e2 : s'.2 2 = s.2 2) (e3 : s'.2 3 = s.2 3) : cNm nx M' A s' := by
  intro t ht
  obtain ⟨g, j, w, n1, n2, l1, l2⟩ := h t ht
  exact ⟨g, by rw [rLn_sm e3]; exact j.mv (f _ n1) (f _ n2), w.sm e2 e3, n1, n2, l1, l2⟩
theorem rLt.sm {s s' : rS} (h : rLt s) (e1 : s'.2 1 = s.2 1) (e2 : s'.2 2 = s.2 2) (e3 : s'.2 3 = s.2 3) : rLt s' := by
  unfold rLt rLn at *
  rw [e1, e2, e3]
  exact h
theorem cTx.sm {A : cA} {v v' : cV} {s s' : rS} (h : cTx A v s) (k23 : v' 23 = v 23) (k24 : v' 24 = v 24) (e4 : s'.1 4 = s.1 4) (e1 : s'.2 1 = s.2 1) : cTx A v' s' := by
  unfold cTx at *
  rw [k23, k24, e4, e1]
  exact h
theorem cNd.sm {A : cA} {v v' : cV} {s s' : rS} (h : cNd A v s) (k13 : v' 13 = v 13) (e4 : s'.2 4 = s.2 4) : cNd A v' s' := by
  unfold cNd at *
  rw [k13, e4]
  exact h
/-- a step that makes nothing anew -/
theorem cW.step {E : xE} {nx : Nat} {M M' : xM} {A : cA} {v v' : cV} {s s' : rS} (h : cW E nx M A v s) (h' : cR E nx M M' A v') (q' : cQ A v' s') (k : ∀ kd, kd = 1 ∨ kd = 13 ∨ kd = 23 ∨ kd = 24 → v' kd = v kd) (k11 : v' 0 0 11 = v 0 0 11) (e4 : s'.1 4 = s.1 4) (e33 : s'.1 33 = s.1 33) (e : ∀ j, j ≤ 4 ∨ j = 25 → s'.2 j = s.2 j) (hh : cH A s') : cW E nx M' A v' s' := by
  obtain ⟨_, _, d, t, n, f, _, l, b⟩ := h
  refine ⟨h'.rf, q', d.sm (k 13 (by omega)) (e 4 (by omega)), t.sm (k 23 (by omega)) (k 24 (by omega)) e4 (e 1 (by omega)), n.st h'.2.2 (e 2 (by omega)) (e 3 (by omega)), ?_, hh, l.sm (e 1 (by omega)) (e 2 (by omega)) (e 3 (by omega)), b⟩
  unfold cFo at *
  rw [k11, k 1 (by omega), e33, e 25 (by omega)]
  exact f
/-- the reference's state is in order -/
theorem cW.rv {E : xE} {nx : Nat} {M : xM} {A : cA} {v : cV} {s : rS} (h : cW E nx M A v s) : rV s (A 2 1) (A 2 2) (A 2 3) := by
  obtain ⟨r, q, _, _, _, _, hh, _, _⟩ := h
  obtain ⟨_, cN', cR', cS', cX', sv⟩ := r.1
  refine ⟨⟨cR', q.1.1.2.2.2⟩, ⟨cS', q.2.1.2.1.2.1⟩, ⟨cX', q.2.1.2.1.2.2.2⟩, hh.1, fun i hi => ?_, fun c hc => ?_⟩
  · by_cases z : i < A 2 2
    · obtain ⟨_, _, _, _, _, _, L, hL, h20, _⟩ := q.2.2.2.1 i z
      exact ⟨L, hL, h20⟩
    · exact ⟨0, by omega, (hh.2.2.2.2 i (by omega) hi).2.2.2⟩
  · obtain ⟨a, ha, e26, e27⟩ := hh.2.2.1 c hc
    obtain ⟨b, hb, e16, _⟩ := hh.2.1 (A 10 c) (sv c hc)
    have := sv c hc
    exact ⟨rSe_mk (by omega) e26 ha e27 (by omega) e16 hb, (q.2.2.2.2 c hc).2.2.2.2.2⟩
theorem cW.rt {E : xE} {nx : Nat} {M : xM} {A : cA} {v : cV} {s : rS} (h : cW E nx M A v s) : ∀ k, k < 48 → rRt (s.2 8 k) := fun k hk => (h.2.2.2.2.2.2.1.1 k hk).1
/-- seldom changes: kept where its arrays are -/
theorem cH.sm {A : cA} {s s' : rS} (h : cH A s) (hj : rJ s') (e : ∀ j, j = 16 ∨ j = 26 ∨ j = 27 → s'.2 j = s.2 j) (es : ∀ c, A 2 3 ≤ c → c < 12 → ∀ j, 28 ≤ j → j ≤ 37 → s'.2 j c = s.2 j c) (ev : ∀ i, A 2 2 ≤ i → i < 16 → s'.2 17 i = s.2 17 i ∧ (∀ k, k < 4 → s'.2 18 (4 * i + k) = s.2 18 (4 * i + k)) ∧ s'.2 19 i = s.2 19 i ∧ s'.2 20 i = s.2 20 i) : cH A s' := by
  obtain ⟨_, h2, h3, h4, h5⟩ := h
  refine ⟨hj, fun i hi => by rw [e 16 (by omega)]; exact h2 i hi, fun c hc => by rw [e 26 (by omega), e 27 (by omega)]; exact h3 c hc, fun c a b j j1 j2 => by rw [es c a b j j1 j2]; exact h4 c a b j j1 j2, fun i a b => ?_⟩
  obtain ⟨a1, a2, a3, a4⟩ := ev i a b
  obtain ⟨b1, b2, b3, b4⟩ := h5 i a b
  exact ⟨a1.trans b1, fun k hk => (a2 k hk).trans (b2 k hk), a3.trans b3, a4.trans b4⟩
/-- a session's try changes only its own things and its service's -/
def rOw (s s' : rS) (c i : Nat) : Prop := (∀ f, f ≠ 47 → f ≠ 48 → s'.1 f = s.1 f) ∧ (∀ j, j < 18 ∨ (25 ≤ j ∧ j ≤ 27) → s'.2 j = s.2 j) ∧ (∀ j q, 28 ≤ j → j ≤ 37 → q ≠ c → s'.2 j q = s.2 j q) ∧ (∀ q, q ≠ i → s'.2 19 q = s.2 19 q ∧ s'.2 20 q = s.2 20 q) ∧ ∀ q, ¬ (4 * i ≤ q ∧ q < 4 * i + 4) → s'.2 18 q = s.2 18 q
theorem rOw.rf (s : rS) (c i : Nat) : rOw s s c i := ⟨fun _ _ _ => rfl, fun _ _ => rfl, fun _ _ _ _ _ => rfl, fun _ _ => ⟨rfl, rfl⟩, fun _ _ => rfl⟩
theorem rOw.tr {a b d : rS} {c i : Nat} (h : rOw a b c i) (g : rOw b d c i) : rOw a d c i := ⟨fun f x y => (g.1 f x y).trans (h.1 f x y), fun j hj => (g.2.1 j hj).trans (h.2.1 j hj), fun j q x y z => (g.2.2.1 j q x y z).trans (h.2.2.1 j q x y z), fun q hq => ⟨(g.2.2.2.1 q hq).1.trans (h.2.2.2.1 q hq).1, (g.2.2.2.1 q hq).2.trans (h.2.2.2.1 q hq).2⟩, fun q hq => (g.2.2.2.2 q hq).trans (h.2.2.2.2 q hq)⟩
theorem rOw.pk (s : rS) (c i : Nat) : rOw s (rPk s) c i := ⟨fun f x y => by simp [rPk, upd, x, y], fun _ _ => rfl, fun _ _ _ _ _ => rfl, fun _ _ => ⟨rfl, rfl⟩, fun _ _ => rfl⟩
theorem rOw.u {s : rS} {f : Nat → Int32} {c i j q : Nat} {x : Int32} (hf : f = s.1) (hj : (28 ≤ j ∧ q = c) ∨ (21 ≤ j ∧ j ≤ 24)) : rOw s (f, up2 s.2 j q x) c i := by
  subst hf
  refine ⟨fun _ _ _ => rfl, fun j' h => up2_n (by omega), fun j' q' h1 h2 h3 => ?_, fun q' _ => ⟨congrFun (up2_n (by omega)) _, congrFun (up2_n (by omega)) _⟩, fun q' _ => congrFun (up2_n (by omega)) _⟩
  by_cases e : j' = j
  · subst e
    rcases hj with hj | hj
    · exact up2_off (by omega)
    · omega
  · exact congrFun (up2_n e) _
theorem rOw.stk (s : rS) (c i e L : Nat) : rOw s (rStk s i e L) c i := ⟨fun _ _ _ => rfl, fun j hj => rStk_n (by omega), fun j q h1 h2 _ => by rw [rStk_n (by omega)], fun q hq => ⟨by rw [rStk_n (by omega)], by rw [rStk_20, if_neg hq]⟩, fun q _ => by rw [rStk_n (by omega)]⟩
theorem rOw.car (s : rS) (i c q L : Nat) : rOw s (rCar s i c q L) c i := by
  obtain ⟨r1, rn, r20, r19, r21, r22, r23, r18⟩ := rCar_v s i c q L
  exact ⟨fun f _ _ => by rw [r1], fun j hj => rn j (by omega), fun j q' h1 h2 _ => by rw [rn j (by omega)], fun q' hq' => ⟨by rw [r19, if_neg hq'], by rw [r20, if_neg hq']⟩, fun q' hq' => by rw [r18, if_neg (fun z => hq' (by omega))]⟩
theorem rOw.lk {R c a b i : Nat} : ∀ l p s, rOw s (rLk R c a b l p s) c i
  | 0, _, s => rOw.rf s c i
  | l + 1, p, s => by
    rw [rLk]
    refine rOw.tr ?_ (rOw.lk l (p + 1) _)
    split
    · split
      · exact (rOw.pk s c i).tr (rOw.u rfl (Or.inl ⟨by omega, rfl⟩))
      · exact rOw.pk s c i
    · exact rOw.rf s c i
theorem rOw.at2 (s : rS) (R c i a b e L : Nat) : rOw s (rAt2 s R c i a b e L) c i := by
  simp only [rAt2]
  have t1 : rOw s (rLk R c a b 8 0 (s.1, up2 s.2 24 (8 * i + e) (s.1 21))) c i := (rOw.u rfl (Or.inr ⟨by omega, by omega⟩)).tr (rOw.lk 8 0 _)
  split
  · exact t1
  · generalize rLk R c a b 8 0 (s.1, up2 s.2 24 (8 * i + e) (s.1 21)) = s3 at t1
    have t2 : rOw s3 (s3.1, up2 (up2 s3.2 31 c 2) 37 c (s3.2 23 (8 * i + e))) c i := (rOw.u (s := s3) (f := s3.1) (j := 31) (q := c) (x := 2) rfl (Or.inl ⟨by omega, rfl⟩)).tr (rOw.u rfl (Or.inl ⟨by omega, rfl⟩))
    split
    · exact ((t1.tr t2).tr (rOw.pk _ c i)).tr (rOw.stk _ c i e L)
    · exact (t1.tr t2).tr (rOw.pk _ c i)
theorem rOw.att (s : rS) (R c : Nat) : rOw s (rAtt s R c) c (rSv s c) := by
  rw [rAtt, rAtM]
  have t1 : rOw s (rPk (rAt1 s c)) c (rSv s c) := ((rOw.u (s := s) (f := s.1) (j := 35) (q := c) (x := s.2 35 c + 1) rfl (Or.inl ⟨by omega, rfl⟩)).tr (rOw.u rfl (Or.inl ⟨by omega, rfl⟩))).tr (rOw.pk _ c _)
  split
  · exact t1
  · split
    · exact t1.tr (rOw.at2 _ _ _ _ _ _ _ _)
    · split
      · exact t1
      · exact (t1.tr (rOw.car _ _ _ _ _)).tr (rOw.at2 _ _ _ _ _ _ _ _)
theorem cH.ow {A : cA} {s s' : rS} {c i : Nat} (h : cH A s) (o : rOw s s' c i) (hc : c < A 2 3) (hi : i < A 2 2) : cH A s' := by
  refine h.sm ?_ (fun j hj => o.2.1 j (by omega)) (fun c' a b j j1 j2 => o.2.2.1 j c' j1 j2 (by omega)) (fun i' a b => ⟨by rw [o.2.1 17 (by omega)], fun k hk => o.2.2.2.2 _ (by omega), (o.2.2.2.1 i' (by omega)).1, (o.2.2.2.1 i' (by omega)).2⟩)
  intro k hk
  rw [o.2.1 7 (by omega), o.2.1 8 (by omega)]
  exact h.1 k hk
