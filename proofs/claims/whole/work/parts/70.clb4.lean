/-! the calls that make nothing anew, with the whole relation -/
/-- what a call leaves: the relation for s', and nothing else is touched -/
def cP (E : xE) (nx : Nat) (M : xM) (A : cA) (s' : rS) (r : Option Value) (Q : Option Value → xM → Nat → Prop) : Prop := ∀ M' A' v' nx', nx ≤ nx' → A' 0 0 = A 0 0 → cW E nx' M' A' v' s' → (∀ q, q < nx → ¬ ccl A q → M' q = M q) → (∀ q, q < nx → ccl A' q → ccl A q) → Q r M' nx'
theorem cP.s {E : xE} {nx : Nat} {M M' : xM} {A : cA} {v' : cV} {s' : rS} {r : Option Value} {Q : Option Value → xM → Nat → Prop} (h : cP E nx M A s' r Q) (w : cW E nx M' A v' s') (f : ∀ q, ¬ ccl A q → M' q = M q) : Q r M' nx := h M' A v' nx (Nat.le_refl nx) rfl w (fun q _ hq => f q hq) (fun _ _ z => z)
theorem cP.z {E : xE} {nx : Nat} {M : xM} {A : cA} {v : cV} {s : rS} {r : Option Value} {Q : Option Value → xM → Nat → Prop} (h : cP E nx M A s r Q) (w : cW E nx M A v s) : Q r M nx := h.s w (fun _ _ => rfl)
theorem rJ.fr {s : rS} {r : Nat} {y : Int32} (h : rJ s) : rJ (rFresh (s.1, up2 s.2 6 r y) r) := by
  intro k hk
  by_cases c : 8 * r ≤ k ∧ k < 8 * r + 8
  · obtain ⟨n, hn, rfl⟩ : ∃ n, n < 8 ∧ k = 8 * r + n := ⟨k - 8 * r, by omega, by omega⟩
    rw [rFresh_in hn, rFresh_in hn]
    refine ⟨Or.inl (by show (-1 : Int32) < 0; decide), fun z => ?_⟩
    exfalso
    simp only [rFrF, if_true] at z
    split at z
    · exact absurd z (by decide)
    · exact absurd z (by decide)
  · rw [rFresh_out c, rFresh_out c]
    have a : ((s.1, up2 s.2 6 r y) : rS).2 8 k = s.2 8 k := by simp [up2]
    have b : ((s.1, up2 s.2 6 r y) : rS).2 7 k = s.2 7 k := by simp [up2]
    rw [a, b]
    exact h k hk
/-- what a tick keeps -/
def rFr (s s' : rS) : Prop := (∀ f, f ≠ 21 → f ≠ 47 → f ≠ 48 → s'.1 f = s.1 f) ∧ ∀ j, j ≤ 4 ∨ (25 ≤ j ∧ j ≤ 27) ∨ j = 16 ∨ j = 17 → s'.2 j = s.2 j
theorem rFr.tr {a b c : rS} (h : rFr a b) (g : rFr b c) : rFr a c := ⟨fun f x y z => (g.1 f x y z).trans (h.1 f x y z), fun j hj => (g.2 j hj).trans (h.2 j hj)⟩
theorem rFr.rf (s : rS) : rFr s s := ⟨fun _ _ _ _ => rfl, fun _ _ => rfl⟩
theorem rY.fr {s s' : rS} (h : rY s s') : rFr s s' := ⟨fun f x _ _ => h.1 f x, fun j hj => h.2 j (by omega)⟩
theorem rOw.fr {s s' : rS} {c i : Nat} (h : rOw s s' c i) : rFr s s' := ⟨fun f _ y z => h.1 f y z, fun j hj => h.2.1 j (by omega)⟩
theorem rY.ta {R : Nat} (hR : R ≤ 6) (l r : Nat) (s : rS) : rY s (rTa R l r s) := rTa_P (P := fun x => rY s x) hR (fun x r t p n _ h => h.tr (rY.take x r t p n)) l r s (rY.rf s)
theorem cH.x {A : cA} {s s' : rS} (h : cH A s) (x : rX s s') : cH A s' := h.sm (x.2.2.2 h.1) (fun j hj => x.2.1 j (by omega)) (fun c _ _ j j1 _ => by rw [x.2.1 j (by omega)]) (fun i _ _ => ⟨by rw [x.2.1 17 (by omega)], fun k _ => by rw [x.2.1 18 (by omega)], by rw [x.2.1 19 (by omega)], by rw [x.2.1 20 (by omega)]⟩)
theorem cH.rl {A : cA} : ∀ l i s, i + l = A 2 2 → A 2 2 ≤ 16 → cH A s → cH A (rRl l i s) ∧ rFr s (rRl l i s)
  | 0, _, s, _, _, h => ⟨h, rFr.rf s⟩
  | l + 1, i, s, hi, hS, h => by
    rw [rRl]
    obtain ⟨r1, r2, r3, r4⟩ := rRe_o i 8 s (by omega)
    have f1 : rFr s (rRe i 8 s) := ⟨fun f _ _ _ => by rw [r1], fun j hj => r2 j (by omega)⟩
    have h1 : cH A (rRe i 8 s) := h.sm (fun k hk => by rw [r2 7 (by omega), r2 8 (by omega)]; exact h.1 k hk) (fun j hj => r2 j (by omega)) (fun c _ _ j j1 _ => by rw [r2 j (by omega)]) (fun i' a _ => ⟨by rw [r2 17 (by omega)], fun k _ => by rw [r2 18 (by omega)], by rw [r2 19 (by omega)], r3 i' (by omega)⟩)
    obtain ⟨h2, f2⟩ := cH.rl l (i + 1) (rRe i 8 s) (by omega) hS h1
    exact ⟨h2, f1.tr f2⟩
theorem rOw.sil (s : rS) (R c i : Nat) : rOw s (rSil s R c) c i := by
  unfold rSil
  split
  · exact rOw.rf s c i
  · split
    · exact ((rOw.u (s := s) (f := s.1) (j := 29) (q := c) (x := rSilV s R c) rfl (Or.inl ⟨by omega, rfl⟩)).tr (rOw.u (j := 28) (q := c) (x := 1) rfl (Or.inl ⟨by omega, rfl⟩))).tr (rOw.u rfl (Or.inl ⟨by omega, rfl⟩))
    · exact rOw.u rfl (Or.inl ⟨by omega, rfl⟩)
theorem cH.ss {A : cA} {R : Nat} (hs : ∀ c, c < A 2 3 → A 10 c < A 2 2) : ∀ l c s, c + l = A 2 3 → cH A s → cH A (rSs R l c s) ∧ rFr s (rSs R l c s)
  | 0, _, s, _, h => ⟨h, rFr.rf s⟩
  | l + 1, c, s, hc, h => by
    rw [rSs]
    have o := rOw.sil s R c (A 10 c)
    obtain ⟨h2, f2⟩ := cH.ss (R := R) hs l (c + 1) (rSil s R c) (by omega) (h.ow o (by omega) (hs c (by omega)))
    exact ⟨h2, o.fr.tr f2⟩
theorem cH.sv {A : cA} {s : rS} {c : Nat} (h : cH A s) (hs : ∀ c, c < A 2 3 → A 10 c < A 2 2) (hS : A 2 2 ≤ 16) (hc : c < A 2 3) : rSv s c = A 10 c := by
  obtain ⟨a, ha, e26, e27⟩ := h.2.2.1 c hc
  have := hs c hc
  rw [rSv, e27, nI_clamp (by omega)]
theorem cH.as {A : cA} {R : Nat} (hs : ∀ c, c < A 2 3 → A 10 c < A 2 2) (hS : A 2 2 ≤ 16) : ∀ l c s, c + l = A 2 3 → cH A s → cH A (rAs R l c s) ∧ rFr s (rAs R l c s)
  | 0, _, s, _, h => ⟨h, rFr.rf s⟩
  | l + 1, c, s, hc, h => by
    rw [rAs]
    have o : rOw s (rAl s R c) c (A 10 c) := by
      unfold rAl
      split
      · split
        · exact rOw.u rfl (Or.inl ⟨by omega, rfl⟩)
        · rw [← h.sv hs hS (show c < A 2 3 by omega)]
          exact rOw.att s R c
      · exact rOw.rf s c _
    obtain ⟨h2, f2⟩ := cH.as (R := R) hs hS l (c + 1) (rAl s R c) (by omega) (h.ow o (by omega) (hs c (by omega)))
    exact ⟨h2, o.fr.tr f2⟩
theorem cH.tick {A : cA} {s : rS} (hR : A 2 1 ≤ 6) (hS : A 2 2 ≤ 16) (hs : ∀ c, c < A 2 3 → A 10 c < A 2 2) (h : cH A s) : cH A (rTick s (A 2 1) (A 2 2) (A 2 3)) ∧ rFr s (rTick s (A 2 1) (A 2 2) (A 2 3)) := by
  have x1 : rX s (rT1 s) := rX.now s _
  have x2 : rX (rT1 s) (rT2 s) := rX.cp _
  have x3 : rX (rT2 s) (rT3 s) := by
    unfold rT3
    split
    · exact rX.age _
    · exact rX.rf _
  have y3 : rY (rT2 s) (rT3 s) := by
    unfold rT3
    split
    · exact rY.age _
    · exact rY.rf _
  have f1 : rFr s (rT1 s) := ⟨fun f x _ _ => by simp [rT1, upd, x], fun _ _ => rfl⟩
  have h5 := ((((h.x x1).x x2).x x3).x (rX.ta hR (A 2 1) 0 _)).x (rX.zn _)
  have f5 := (((f1.tr (rY.cp _).fr).tr y3.fr).tr (rY.ta hR (A 2 1) 0 _).fr).tr (rY.zn _).fr
  obtain ⟨h6, f6⟩ := cH.rl (A 2 2) 0 _ (by omega) hS h5
  obtain ⟨h7, f7⟩ := cH.ss (R := A 2 1) hs (A 2 3) 0 _ (by omega) h6
  obtain ⟨h8, f8⟩ := cH.as (R := A 2 1) hs hS (A 2 3) 0 _ (by omega) h7
  exact ⟨h8, ((f5.tr f6).tr f7).tr f8⟩
section CWS
variable {E : xE} {nx : Nat} {M : xM} {A : cA} {v : cV} {s : rS} {Q : Option Value → xM → Nat → Prop}
theorem w22 (h : cW E nx M A v s) (hq : cP E nx M A s (some (.int (s.1 48))) Q) : XC E 22 [.ref (A 0 0)] M nx Q := mc22 h.1 h.2.1 (hq.z h)
theorem w17 {x : Int32} (h : cW E nx M A v s) (hq : cP E nx M A s (some (.int (rStatus s x))) Q) : XC E 17 [.ref (A 0 0), .int x] M nx Q := mc17 h.1 h.2.1 (hq.z h)
theorem w18 {x : Int32} (h : cW E nx M A v s) (hq : cP E nx M A s (some (.int (rReply s x))) Q) : XC E 18 [.ref (A 0 0), .int x] M nx Q := mc18 h.1 h.2.1 (hq.z h)
theorem w19 {x : Int32} (h : cW E nx M A v s) (hq : cP E nx M A s (some (.int (rMissing s x))) Q) : XC E 19 [.ref (A 0 0), .int x] M nx Q := mc19 h.1 h.2.1 (hq.z h)
theorem w20 {x k : Int32} (h : cW E nx M A v s) (hq : cP E nx M A s (some (.int (rLedger s (A 2 2) x k))) Q) : XC E 20 [.ref (A 0 0), .int x, .int k] M nx Q := mc20 h.1 h.2.1 (hq.z h)
theorem w13 {a b : Int32} (h : cW E nx M A v s) (hq : cP E nx M A s (some (.int (rRoute s (A 2 1) (A 2 0) a b))) Q) : XC E 13 [.ref (A 0 0), .int a, .int b] M nx Q := mc13 h.1 h.2.1.1 (hq.z h)
theorem w14 {a b : Int32} (h : cW E nx M A v s) (hq : cP E nx M A s (some (.int (rHops s (A 2 1) (A 2 0) a b))) Q) : XC E 14 [.ref (A 0 0), .int a, .int b] M nx Q := mc14 h.1 h.2.1.1 (hq.z h)
theorem w11 {x : Int32} (h : cW E nx M A v s) (hq : cP E nx M A s (some (.int (rFound s x))) Q) : XC E 11 [.ref (A 0 0), .int x] M nx Q := by
  obtain ⟨f1, f2, F, hF, eF⟩ := h.2.2.2.2.2.1
  exact mc11 h.1 hF eF f1 f2 (hq.z h)
theorem w21 {x : Int32} (h : cW E nx M A v s) (hq : cP E nx M A (upd s.1 47 x, s.2) none Q) : XC E 21 [.ref (A 0 0), .int x] M nx Q :=
  mc21 h.1 h.2.1 (fun _ _ h' q' k' => hq.s (h.step h' q' (fun kd hk => k' kd (by omega)) (by rw [k' 0 (by decide)]) rfl rfl (fun _ _ => rfl) h.2.2.2.2.2.2.1) h'.2.2)
theorem w6 {x y : Int32} (h : cW E nx M A v s) (hy : y = 0 ∨ y = 1) (hq : cP E nx M A (rPower s (A 2 1) x y).2 (some (.int (rPower s (A 2 1) x y).1)) Q) : XC E 6 [.ref (A 0 0), .int x, .int y] M nx Q := by
  refine mc6 h.1 h.2.1 hy (fun M' v' h' q' k' => hq.s (h.step h' q' (fun kd hk => k' kd (by omega) (by omega)) (by rw [k' 0 (by decide) (by decide)]) ?_ ?_ (fun j hj => ?_) ?_) h'.2.2)
  · unfold rPower; split <;> rfl
  · unfold rPower; split <;> rfl
  · unfold rPower
    split
    · rfl
    · dsimp only
      rw [rFresh_n (by omega)]
      exact up2_n (by omega)
  · have hh := h.2.2.2.2.2.2.1
    unfold rPower
    split
    · exact hh
    · refine hh.sm hh.1.fr (fun j hj => ?_) (fun c _ _ j j1 _ => ?_) (fun i _ _ => ?_)
      · rw [rFresh_n (by omega)]; exact up2_n (by omega)
      · rw [rFresh_n (by omega)]; exact congrFun (up2_n (by omega)) c
      · refine ⟨?_, fun k _ => ?_, ?_, ?_⟩ <;> rw [rFresh_n (by omega)] <;> simp [up2]
theorem w9 {x : Int32} (h : cW E nx M A v s) (hq : cP E nx M A (rDrop s (A 2 2) x).2 (some (.int (rDrop s (A 2 2) x).1)) Q) : XC E 9 [.ref (A 0 0), .int x] M nx Q := by
  have hS := h.1.1.2.2.2.1
  refine mc9 h.1 h.2.1 (fun M' v' h' q' k' => hq.s (h.step h' q' (fun kd hk => k' kd (by omega)) (by rw [k' 0 (by decide)]) ?_ ?_ (fun j hj => ?_) ?_) h'.2.2)
  · unfold rDrop; split <;> rfl
  · unfold rDrop; split <;> rfl
  · unfold rDrop
    split
    · rfl
    · exact up2_n (by omega)
  · have hh := h.2.2.2.2.2.2.1
    unfold rDrop
    split
    · exact hh
    · next z =>
      obtain ⟨i, hi, rfl⟩ := nIv (X := A 2 2) (fun y => z (Or.inl y)) (fun y => z (Or.inr (Or.inl y))) (by omega)
      rw [nI_clamp (by omega)]
      refine hh.sm (fun k hk => ?_) (fun j hj => up2_n (by omega)) (fun c _ _ j j1 _ => congrFun (up2_n (by omega)) c) (fun i' a _ => ⟨?_, fun k _ => by simp [up2], by simp [up2], by simp [up2]⟩)
      · dsimp only
        rw [up2_n (by decide), up2_n (by decide)]
        exact hh.1 k hk
      · dsimp only
        rw [up2_s, if_neg (by omega)]
theorem w16 {x k y p : Int32} (h : cW E nx M A v s) (hq : cP E nx M A (rCmd s (A 2 1) x k y p).2 (some (.int (rCmd s (A 2 1) x k y p).1)) Q) : XC E 16 [.ref (A 0 0), .int x, .int k, .int y, .int p] M nx Q := by
  have hX := h.1.1.2.2.2.2.1
  have hS := h.1.1.2.2.2.1
  have hs := h.1.1.2.2.2.2.2
  have hh := h.2.2.2.2.2.2.1
  have n34 := h.2.1.2.1.2.1.2.2.2
  have key : rFr s (rCmd s (A 2 1) x k y p).2 ∧ cH A (rCmd s (A 2 1) x k y p).2 := by
    unfold rCmd
    split
    · exact ⟨rFr.rf s, hh⟩
    · next z =>
      split
      · exact ⟨rFr.rf s, hh⟩
      · split
        · exact ⟨rFr.rf s, hh⟩
        · rw [n34] at z
          obtain ⟨c, hc, rfl⟩ := nIv (X := A 2 3) (fun y => z (Or.inl (Or.inl y))) (fun y => z (Or.inl (Or.inr y))) (by omega)
          rw [nI_clamp (by omega)]
          have o1 : rOw s (rCm1 s c k y p) c (A 10 c) := by
            unfold rCm1
            refine rOw.tr (rOw.tr (rOw.tr (rOw.tr (rOw.tr (rOw.u (s := s) (f := s.1) (j := 30) (q := c) (x := s.2 30 c + 1) rfl (Or.inl ⟨by omega, rfl⟩)) (rOw.u (j := 32) (q := c) (x := k) rfl (Or.inl ⟨by omega, rfl⟩))) (rOw.u (j := 33) (q := c) (x := y) rfl (Or.inl ⟨by omega, rfl⟩))) (rOw.u (j := 34) (q := c) (x := (1 <<< (p &&& 31)) - 1) rfl (Or.inl ⟨by omega, rfl⟩))) (rOw.u (j := 31) (q := c) (x := 1) rfl (Or.inl ⟨by omega, rfl⟩))) (rOw.u rfl (Or.inl ⟨by omega, rfl⟩))
          have h1 := hh.ow o1 hc (hs c hc)
          have o2 := rOw.att (rCm1 s c k y p) (A 2 1) c
          rw [h1.sv hs hS hc] at o2
          exact ⟨o1.fr.tr o2.fr, h1.ow o2 hc (hs c hc)⟩
  exact mc16 h.1 h.2.1 (fun M' v' h' q' k' => hq.s (h.step h' q' (fun kd hk => k' kd (by omega) (by omega) (by omega) (by omega) (by omega)) (by rw [k' 0 (by decide) (by decide) (by decide) (by decide) (by decide)]) (key.1.1 4 (by decide) (by decide) (by decide)) (key.1.1 33 (by decide) (by decide) (by decide)) (fun j hj => key.1.2 j (by omega)) key.2) h'.2.2)
theorem w12 {T : Nat} (h : cW E nx M A v s) (hT : T + 1 < 2 ^ 30) (eT : s.1 21 = nI T) (hq : cP E nx M A (rTick s (A 2 1) (A 2 2) (A 2 3)) (some (.int (nI (rCpK (rT1 s) 48 0 0)))) Q) : XC E 12 [.ref (A 0 0)] M nx Q := by
  obtain ⟨hh, ff⟩ := cH.tick h.1.1.2.2.1 h.1.1.2.2.2.1 h.1.1.2.2.2.2.2 h.2.2.2.2.2.2.1
  exact mc12 h.1 h.2.1 hT eT (fun M' v' h' q' k' k11 => hq.s (h.step h' q' (fun kd hk => k' kd (by omega)) k11 (ff.1 4 (by decide) (by decide) (by decide)) (ff.1 33 (by decide) (by decide) (by decide)) (fun j hj => ff.2 j (by omega)) hh) h'.2.2)
theorem w7 {x y : Int32} (h : cW E nx M A v s) (hq : cP E nx M A (rNode s (A 2 0) x y).2 (some (.int (rNode s (A 2 0) x y).1)) Q) : XC E 7 [.ref (A 0 0), .int x, .int y] M nx Q := by
  have e1 : (rNode s (A 2 0) x y).2.1 = s.1 := by
    unfold rNode
    split
    · rfl
    · cases rNdF s x.toNatClampNeg y.toNatClampNeg 6 0 <;> rfl
  have e2 : ∀ j, j ≠ 4 → (rNode s (A 2 0) x y).2.2 j = s.2 j := by
    intro j hj
    unfold rNode
    split
    · rfl
    · cases rNdF s x.toNatClampNeg y.toNatClampNeg 6 0
      · rfl
      · exact up2_n hj
  obtain ⟨r, q, d, t, n, f, hh, l, b⟩ := h
  refine mc7 r q d (fun M' v' h' q' d' k' => hq.s ⟨h'.rf, q', d', t.sm (k' 23 (by decide)) (k' 24 (by decide)) (by rw [e1]) (e2 1 (by decide)), n.st h'.2.2 (e2 2 (by decide)) (e2 3 (by decide)), ?_, ?_, l.sm (e2 1 (by decide)) (e2 2 (by decide)) (e2 3 (by decide)), b⟩ h'.2.2)
  · unfold cFo at *
    rw [k' 0 (by decide), k' 1 (by decide), e1, e2 25 (by decide)]
    exact f
  · exact hh.sm (fun k hk => by rw [e2 7 (by decide), e2 8 (by decide)]; exact hh.1 k hk) (fun j hj => e2 j (by omega)) (fun c _ _ j j1 _ => by rw [e2 j (by omega)]) (fun i _ _ => ⟨by rw [e2 17 (by decide)], fun k _ => by rw [e2 18 (by decide)], by rw [e2 19 (by decide)], by rw [e2 20 (by decide)]⟩)
end CWS
