/-! the beginning; what the law keeps -/
def A0 (c : Nat) : cA := fun g i => if g = 0 ∧ i = 0 then c else if g = 1 ∧ i = 0 then c + 2 else if g = 1 ∧ i = 1 then 16 else 0
def v0 (a b d ml : Int32) : cV := fun kd i => if kd = 0 ∧ i = 0 then w [1 + (a &&& 3), 1 + (b &&& 3), 1 + (d &&& 15), 0, 0, 0, 0, 0, 0, 0, 0, 0, 0, 0, 0] else if kd = 23 ∧ i = 0 then w [0, 0, ml, 0] else zE
theorem A0_c (c : Nat) : A0 c 2 0 = 0 ∧ A0 c 2 1 = 0 ∧ A0 c 2 2 = 0 ∧ A0 c 2 3 = 0 := ⟨rfl, rfl, rfl, rfl⟩
theorem A0_lv {c kd i : Nat} (h : clv (A0 c) kd i) : i = 0 ∧ (kd ≤ 9 ∨ kd = 23 ∨ kd = 24) := by
  by_cases z : 10 ≤ kd ∧ kd ≤ 22
  · exfalso
    rw [clv_i] at h
    obtain rfl | rfl | rfl | rfl | rfl | rfl | rfl | rfl | rfl | rfl | rfl | rfl | rfl : kd = 10 ∨ kd = 11 ∨ kd = 12 ∨ kd = 13 ∨ kd = 14 ∨ kd = 15 ∨ kd = 16 ∨ kd = 17 ∨ kd = 18 ∨ kd = 19 ∨ kd = 20 ∨ kd = 21 ∨ kd = 22 := by omega
    all_goals exact absurd h (Nat.not_lt_zero i)
  · have := (clv_d z).mp h
    omega
theorem and15 (x : Int32) : ∃ q, q ≤ 15 ∧ x &&& 15 = nI q := by
  refine ⟨(x &&& 15).toBitVec.toNat, ?_, ?_⟩
  · have : (x &&& 15).toBitVec.toNat = x.toBitVec.toNat &&& 15 := rfl
    rw [this]
    exact Nat.and_le_right
  · apply Int32.toBitVec_inj.mp
    show _ = BitVec.ofNat 32 _
    rw [BitVec.ofNat_toNat, BitVec.setWidth_eq]
theorem rInit_a {a b d : Int32} (j k : Nat) : (rInit a b d).2 j k = if j = 7 ∧ k < 48 then -1 else 0 := by
  unfold rInit rPt rInF
  dsimp only
  by_cases h : k < 48
  · rw [if_pos (by omega)]
    by_cases e : j = 7
    · rw [if_pos e, if_pos ⟨e, h⟩]
    · rw [if_neg e, if_neg (fun z => e z.1)]
  · rw [if_neg (by omega), if_neg (fun z => h z.2)]
theorem rInit_z {a b d : Int32} {j k : Nat} (h : j ≠ 7) : (rInit a b d).2 j k = 0 := by rw [rInit_a, if_neg (fun z => h z.1)]
theorem rInit_1 {a b d : Int32} {f : Nat} (h : 3 ≤ f) : (rInit a b d).1 f = 0 := by
  show rIn0 a b d f = 0
  unfold rIn0 upd
  rw [if_neg (by omega), if_neg (by omega), if_neg (by omega)]
theorem cW0 {E : xE} {M0 M : xM} {c : Nat} {a b d ml : Int32} (hb : xb E ≤ c) (hml : ml = 0 ∨ ml = 1) (h : kP M0 M c 12 [.int (1 + (a &&& 3)), .int (1 + (b &&& 3)), .int (1 + (d &&& 15)), .ref (c + 1), .ref (c + 3), .ref (c + 6), .ref (c + 7), .int 0, .ref (c + 8), .int 0, .ref (c + 9), .int 0, .ref (c + 10), .ref (c + 11), .int 0] ml) : cW E (c + 12) M (A0 c) (v0 a b d ml) (rInit a b d) ∧ ∀ q, ccl (A0 c) q → c ≤ q ∧ q < c + 12 := by
  have ads : ∀ kd, kd ≤ 9 ∨ kd = 23 ∨ kd = 24 → c ≤ cad (A0 c) kd 0 ∧ cad (A0 c) kd 0 < c + 12 := by
    intro kd hk
    obtain rfl | rfl | rfl | rfl | rfl | rfl | rfl | rfl | rfl | rfl | rfl | rfl : kd = 0 ∨ kd = 1 ∨ kd = 2 ∨ kd = 3 ∨ kd = 4 ∨ kd = 5 ∨ kd = 6 ∨ kd = 7 ∨ kd = 8 ∨ kd = 9 ∨ kd = 23 ∨ kd = 24 := by omega
    all_goals
      simp only [cad, A0]
      simp
  have r : cR E (c + 12) M M (A0 c) (v0 a b d ml) := by
    refine ⟨⟨⟨fun q => if q = c then (0, 0) else if q = c + 9 then (1, 0) else if q = c + 10 then (2, 0) else if q = c + 11 then (3, 0) else if q = c + 3 then (4, 0) else if q = c + 4 then (5, 0) else if q = c + 5 then (6, 0) else if q = c + 7 then (7, 0) else if q = c + 8 then (8, 0) else if q = c + 6 then (9, 0) else if q = c + 1 then (23, 0) else (24, 0), fun kd i hl => ?_⟩, Nat.zero_le _, Nat.zero_le _, Nat.zero_le _, Nat.zero_le _, fun c' hc' => absurd hc' (Nat.not_lt_zero _)⟩, fun kd i hl => ?_, fun _ _ => rfl⟩
    · obtain ⟨rfl, hk⟩ := A0_lv hl
      refine ⟨?_, by have := ads kd hk; omega, (ads kd hk).2⟩
      obtain rfl | rfl | rfl | rfl | rfl | rfl | rfl | rfl | rfl | rfl | rfl | rfl : kd = 0 ∨ kd = 1 ∨ kd = 2 ∨ kd = 3 ∨ kd = 4 ∨ kd = 5 ∨ kd = 6 ∨ kd = 7 ∨ kd = 8 ∨ kd = 9 ∨ kd = 23 ∨ kd = 24 := by omega
      all_goals
        simp only [cad, A0]
        simp
    · obtain ⟨rfl, hk⟩ := A0_lv hl
      obtain ⟨h0, hd, _⟩ := h
      obtain rfl | rfl | rfl | rfl | rfl | rfl | rfl | rfl | rfl | rfl | rfl | rfl : kd = 0 ∨ kd = 1 ∨ kd = 2 ∨ kd = 3 ∨ kd = 4 ∨ kd = 5 ∨ kd = 6 ∨ kd = 7 ∨ kd = 8 ∨ kd = 9 ∨ kd = 23 ∨ kd = 24 := by omega
      · exact h0
      · exact hd 9 (by decide) (by decide)
      · exact hd 10 (by decide) (by decide)
      · exact hd 11 (by decide) (by decide)
      · exact hd 3 (by decide) (by decide)
      · refine (hd 4 (by decide) (by decide)).trans ?_
        show some (Sum.inr (4, 8, fun _ => Value.null)) = some (Sum.inr (4, 8, fun k => if k < 0 then Value.ref (A0 c 3 k) else .null))
        simp
      · refine (hd 5 (by decide) (by decide)).trans ?_
        show some (Sum.inr (5, 6, fun _ => Value.null)) = some (Sum.inr (5, 6, fun k => if k < 0 then Value.ref (A0 c 4 k) else .null))
        simp
      · refine (hd 7 (by decide) (by decide)).trans ?_
        show some (Sum.inr (6, 16, fun _ => Value.null)) = some (Sum.inr (6, 16, fun k => if k < 0 then Value.ref (A0 c 5 k) else .null))
        simp
      · refine (hd 8 (by decide) (by decide)).trans ?_
        show some (Sum.inr (7, 12, fun _ => Value.null)) = some (Sum.inr (7, 12, fun k => if k < 0 then Value.ref (A0 c 6 k) else .null))
        simp
      · exact hd 6 (by decide) (by decide)
      · exact hd 1 (by decide) (by decide)
      · exact hd 2 (by decide) (by decide)
  obtain ⟨q15, hq15, e15⟩ := and15 d
  have far : ∀ i, i < 48 → (rInit a b d).2 7 i < 0 := fun i hi => by rw [rInit_a, if_pos ⟨rfl, hi⟩]; decide
  have has0 : ∀ r n, rHas (rInit a b d) r n = decide (((0 : Int32) >>> (nI n &&& 31)) &&& 1 = 1) := fun r n => by unfold rHas; rw [rInit_z (by decide)]
  have tb : rTb (rInit a b d) 0 0 := by
    refine ⟨fun r n hr hn => ?_, fun r hr => by omega, fun r n hr => by omega⟩
    unfold rTb1
    rw [if_neg (fun z => by omega)]
    exact Or.inl (far _ (by omega))
  have ch0 : rCh 0 := ⟨0, by decide, rfl⟩
  refine ⟨⟨r, ⟨⟨⟨rfl, rfl, rInit_1 (by decide), rInit_1 (by decide)⟩, fun r hr => absurd hr (Nat.not_lt_zero _), fun r k hr => absurd hr (Nat.not_lt_zero _), tb⟩, ⟨⟨rfl, rfl, rfl, (rInit_1 (by decide)).symm⟩, ⟨rfl, rInit_1 (by decide), rfl, rInit_1 (by decide)⟩, ⟨1 + q15, by omega, by omega, ?_⟩, ⟨0, by decide, rInit_1 (by decide)⟩⟩, ⟨(rInit_1 (by decide)).symm, (rInit_1 (by decide)).symm⟩, fun i hi => absurd hi (Nat.not_lt_zero _), fun i hi => absurd hi (Nat.not_lt_zero _)⟩, ⟨fun n k hn => absurd hn (Nat.not_lt_zero _), fun i _ => Or.inl (rInit_z (by decide)), fun i _ z => absurd (rInit_z (by decide)) z⟩, ⟨0, by decide, rInit_1 (by decide), rfl, hml, Or.inl rfl, Nat.zero_le _, fun k _ => ch0, fun k hk => absurd hk (Nat.not_lt_zero _)⟩, fun t ht => ?_, ⟨(rInit_1 (by decide)).symm, ?_, 0, by decide, rInit_1 (by decide)⟩, ⟨fun k hk => ⟨Or.inr ⟨0, by decide, rInit_z (by decide)⟩, fun z => absurd z (k2_nlt (Int32.le_of_lt (far k hk)))⟩, fun i hi => absurd hi (Nat.not_lt_zero _), fun i hi => absurd hi (Nat.not_lt_zero _), fun c' _ _ j j1 _ => rInit_z (by omega), fun i _ _ => ⟨rInit_z (by decide), fun k _ => rInit_z (by decide), rInit_z (by decide), rInit_z (by decide)⟩⟩, ⟨fun n _ => ?_, fun k _ => ?_, fun k _ => ?_⟩, by omega⟩, fun q ⟨kd, i, hl, e⟩ => ?_⟩
  · show 1 + (d &&& 15) = nI (1 + q15)
    rw [e15]
    exact nI_add 1 q15
  · exfalso
    unfold nlv at ht
    obtain ⟨a0, _, a2, _⟩ := A0_c c
    omega
  · funext k
    exact (rInit_z (by decide)).symm
  · unfold rLn
    rw [rInit_z (by decide)]
    exact ⟨by decide, rfl⟩
  · rw [rInit_z (by decide)]; exact ch0
  · rw [rInit_z (by decide)]; exact ch0
  · obtain ⟨rfl, hk⟩ := A0_lv hl
    rw [← e]
    exact ads kd hk
/-- the reference's cells have changed, the class's not -/
theorem cW.ref {E : xE} {nx m : Nat} {M M' : xM} {A : cA} {v : cV} {s sr : rS} (h : cW E nx M A v s) (r : rRep M m sr) (nc : ∀ q, m ≤ q → q ≤ m + 37 → ¬ ccl A q) (f : ∀ q, ¬ (m ≤ q ∧ q ≤ m + 37) → M' q = M q) : cW E nx M' A v s := by
  obtain ⟨c, q, d, t, n, fo, hh, l, b⟩ := h
  refine ⟨⟨c.1, fun kd i hl => ?_, fun _ _ => rfl⟩, q, d, t, fun t' ht' => ?_, fo, hh, l, b⟩
  · rw [f _ (fun z => nc _ z.1 z.2 ⟨kd, i, hl, rfl⟩)]
    exact c.2.1 kd i hl
  · obtain ⟨g, j, w', n1, n2, l1, l2⟩ := n t' ht'
    have rf : ∀ q z, M q = some z → (∀ fs, z ≠ .inl (12, fs)) → (∀ ty ln f, (ty = 0 ∨ ty = 2 ∨ ty = 3) → z ≠ .inr (ty, ln, f)) → ¬ (m ≤ q ∧ q ≤ m + 37) := by
      intro q z hz h1 h2 y
      by_cases e : q = m
      · rw [e, r.1] at hz
        injection hz with hz
        exact h1 _ hz.symm
      · obtain ⟨j', hj1, hj2, rfl⟩ : ∃ j', 1 ≤ j' ∧ j' ≤ 37 ∧ q = m + j' := ⟨q - m, by omega, by omega, by omega⟩
        rw [r.2 j' hj1 hj2] at hz
        injection hz with hz
        refine h2 _ _ _ ?_ hz.symm
        have : ∀ j, j ≤ 37 → rty j = 0 ∨ rty j = 2 ∨ rty j = 3 := by decide
        exact this j' hj2
    refine ⟨g, j.mv (f _ (rf _ _ j.1 (fun fs z => by cases z) (fun ty ln f _ z => by cases z))) (f _ (rf _ _ j.2.1 (fun fs z => by cases z) (fun ty ln f ht z => by cases z; omega))), w', n1, n2, l1, l2⟩
theorem rRl_1 : ∀ l i s, (rRl l i s).1 = s.1
  | 0, _, _ => rfl
  | l + 1, i, s => by rw [rRl, rRl_1 l, (rRe_o i 8 s (by omega)).1]
theorem rSs_21 (R : Nat) : ∀ l c s, (rSs R l c s).1 21 = s.1 21
  | 0, _, _ => rfl
  | l + 1, c, s => by rw [rSs, rSs_21 R l, (rOw.sil s R c 0).1 21 (by decide) (by decide)]
theorem rAs_21 (R : Nat) : ∀ l c s, (rAs R l c s).1 21 = s.1 21
  | 0, _, _ => rfl
  | l + 1, c, s => by
    rw [rAs, rAs_21 R l]
    unfold rAl
    split
    · split
      · rfl
      · exact (rOw.att s R c).1 21 (by decide) (by decide)
    · rfl
theorem rTick_21 (s : rS) (R S X : Nat) : (rTick s R S X).1 21 = s.1 21 + 1 := by
  unfold rTick
  rw [rAs_21, rSs_21, rRl_1]
  show (rTa R R 0 (rT3 s)).1 21 = _
  rw [rTa_1]
  have : (rT3 s).1 = (rT2 s).1 := by unfold rT3; split <;> rfl
  rw [this]
  show upd s.1 21 (s.1 21 + 1) 21 = _
  simp [upd]
