/-- the tables are in order -/
def rJ (s : rS) : Prop := ∀ k, k < 48 → rRt (s.2 8 k) ∧ (0 < s.2 7 k → ∃ r, r < 6 ∧ s.2 8 k = nI r)
theorem rJ_cg {s s' : rS} (h : rJ s) (e7 : s'.2 7 = s.2 7) (e8 : s'.2 8 = s.2 8) : rJ s' := by
  intro k hk; rw [e7, e8]; exact h k hk
theorem rTake_2 (s : rS) (r t p n : Nat) {j : Nat} (hj : j ≠ 7 ∧ j ≠ 8 ∧ j ≠ 9 ∧ j ≠ 10 ∧ j ≠ 11) : (rTake s r t p n).2 j = s.2 j := by
  obtain ⟨h1, h2, h3, h4, h5⟩ := hj
  unfold rTake
  split
  · exact up2_n h4
  · split
    · exact up2_n h1
    · split
      · dsimp only; rw [up2_n h4, up2_n h3, up2_n h2, up2_n h1, up2_n h5]
      · rfl
theorem rJ_take {s : rS} {r t p n : Nat} (ht : t < 6) (h : rJ s) : rJ (rTake s r t p n) := by
  unfold rTake
  split
  · refine rJ_cg h ?_ ?_
    · dsimp only; rw [up2_n (by decide)]
    · dsimp only; rw [up2_n (by decide)]
  · split
    · intro k hk
      have := h k hk
      by_cases e : k = 8 * r + n
      · subst e
        refine ⟨this.1, ?_⟩
        show 0 < up2 s.2 7 (8 * r + n) _ 7 (8 * r + n) → _
        rw [up2_s, if_pos rfl]
        split
        · intro z; exact absurd z (by decide)
        · exact this.2
      · refine ⟨this.1, ?_⟩
        show 0 < up2 s.2 7 (8 * r + n) _ 7 k → _
        rw [up2_off e]
        exact this.2
    · split
      · intro k hk
        by_cases e : k = 8 * r + n
        · subst e
          have e8 : ∀ a x y, (up2 (up2 (up2 a 8 (8 * r + n) (nI t)) 9 (8 * r + n) x) 10 (8 * r + n) y) 8 (8 * r + n) = nI t := fun a x y => by rw [up2_n (by decide), up2_n (by decide), up2_s, if_pos rfl]
          dsimp only
          rw [e8]
          exact ⟨Or.inr ⟨t, ht, rfl⟩, fun _ => ⟨t, ht, rfl⟩⟩
        · dsimp only
          rw [up2_off e, up2_off e, up2_off e, up2_off e, up2_off e, up2_off e, up2_off e, up2_off e, up2_off e, up2_off e]
          exact h k hk
      · exact h
theorem rTn_P {P : rS → Prop} {r t p : Nat} (hP : ∀ s n, P s → P (rTake s r t p n)) : ∀ l n s, P s → P (rTn r t p l n s)
  | 0, _, _, h => h
  | l + 1, n, s, h => by
    rw [rTn]
    refine rTn_P hP l _ _ ?_
    split
    · exact hP s n h
    · exact h
theorem rTp_P {P : rS → Prop} {r t : Nat} (hP : ∀ s p n, P s → P (rTake s r t p n)) : ∀ l p s, P s → P (rTp r t l p s)
  | 0, _, _, h => h
  | l + 1, p, s, h => rTp_P hP l _ _ (rTn_P (fun s n => hP s p n) 8 0 s h)
theorem rTs_P {P : rS → Prop} {r : Nat} (hP : ∀ s t p n, t < 6 → P s → P (rTake s r t p n)) : ∀ l t s, t + l ≤ 6 → P s → P (rTs r l t s)
  | 0, _, _, _, h => h
  | l + 1, t, s, ht, h => rTs_P hP l _ _ (by omega) (rTp_P (fun s p n => hP s t p n (by omega)) 8 0 s h)
/-- all routers take -/
def rTa (R : Nat) : Nat → Nat → rS → rS
  | 0, _, s => s
  | l + 1, r, s => rTa R l (r + 1) (if s.2 6 r = 0 then s else rTs r R 0 s)
theorem rTa_P {P : rS → Prop} {R : Nat} (hR : R ≤ 6) (hP : ∀ s r t p n, t < 6 → P s → P (rTake s r t p n)) : ∀ l r s, P s → P (rTa R l r s)
  | 0, _, _, h => h
  | l + 1, r, s, h => by
    rw [rTa]
    refine rTa_P hR hP l _ _ ?_
    split
    · exact h
    · exact rTs_P (fun s t p n => hP s r t p n) R 0 s (by omega) h
/-- s' is s but for what sessions and services do -/
def rW (s s' : rS) : Prop := (∀ f, f ≠ 47 → f ≠ 48 → s'.1 f = s.1 f) ∧ (∀ j, (j < 18 ∨ j = 25 ∨ j = 26 ∨ j = 27 ∨ j = 30 ∨ j = 32 ∨ j = 33) → s'.2 j = s.2 j) ∧ ((∀ i, i < 16 → ∃ L, L ≤ 8 ∧ s.2 20 i = nI L) → ∀ i, i < 16 → ∃ L, L ≤ 8 ∧ s'.2 20 i = nI L)
theorem rW.rf (s : rS) : rW s s := ⟨fun _ _ _ => rfl, fun _ _ => rfl, fun h => h⟩
theorem rW.tr {a b c : rS} (h : rW a b) (g : rW b c) : rW a c := ⟨fun f n1 n2 => (g.1 f n1 n2).trans (h.1 f n1 n2), fun j hj => (g.2.1 j hj).trans (h.2.1 j hj), fun z => g.2.2 (h.2.2 z)⟩
theorem rW.pk {a b : rS} (h : rW a b) : rW a (rPk b) := h.tr ⟨fun f n1 n2 => by simp [rPk, upd, n1, n2], fun _ _ => rfl, fun z => z⟩
theorem rW.up {a b : rS} (h : rW a b) (j i : Nat) (x : Int32) (hj : ¬ (j < 18 ∨ j = 20 ∨ j = 25 ∨ j = 26 ∨ j = 27 ∨ j = 30 ∨ j = 32 ∨ j = 33)) : rW a (b.1, up2 b.2 j i x) :=
  h.tr ⟨fun _ _ _ => rfl, fun j' h' => up2_n (by omega), fun z i' hi' => by dsimp only; rw [up2_n (by omega)]; exact z i' hi'⟩
theorem rW.up20 {a b : rS} (h : rW a b) (i L : Nat) (hL : L ≤ 8) : rW a (b.1, up2 b.2 20 i (nI L)) :=
  h.tr ⟨fun _ _ _ => rfl, fun j' h' => up2_n (by omega), fun z i' hi' => by
    dsimp only
    by_cases e : i' = i
    · subst e; exact ⟨L, hL, by rw [up2_s, if_pos rfl]⟩
    · rw [up2_off e]; exact z i' hi'⟩
theorem rW.stk {a b : rS} (h : rW a b) (i e L : Nat) (hL : L ≤ 8) : rW a (rStk b i e L) :=
  ((((h.up20 i L hL).up 21 _ _ (by decide)).up 22 _ _ (by decide)).up 23 _ _ (by decide)).up 24 _ _ (by decide)
theorem rW.car {a b : rS} (h : rW a b) (i c q L : Nat) (hL : L < 8) : rW a (rCar b i c q L) := by
  rw [rCar]
  split
  · exact ((((h.up20 i (L + 1) hL).up 19 _ _ (by decide)).up 21 _ _ (by decide)).up 22 _ _ (by decide)).up 23 _ _ (by decide)
  · exact (((((h.up20 i (L + 1) hL).up 19 _ _ (by decide)).up 21 _ _ (by decide)).up 22 _ _ (by decide)).up 23 _ _ (by decide)).up 18 _ _ (by decide)
theorem rW.lk {a : rS} (R c x y : Nat) : ∀ l p b, rW a b → rW a (rLk R c x y l p b)
  | 0, _, _, h => h
  | l + 1, p, b, h => by
    rw [rLk]
    refine rW.lk R c x y l _ _ ?_
    split
    · split
      · exact (h.pk).up 34 _ _ (by decide)
      · exact h.pk
    · exact h
theorem rW.at2 {a b : rS} (h : rW a b) (R c i x y e L : Nat) (hL : L ≤ 8) : rW a (rAt2 b R c i x y e L) := by
  have h3 := rW.lk R c x y 8 0 _ (h.up 24 (8 * i + e) (b.1 21) (by decide))
  rw [rAt2]
  dsimp only
  split
  · exact h3
  · split
    · exact (((h3.up 31 _ _ (by decide)).up 37 _ _ (by decide)).pk).stk i e L hL
    · exact ((h3.up 31 _ _ (by decide)).up 37 _ _ (by decide)).pk
theorem rW.att {a b : rS} (h : rW a b) (R c : Nat) (hl : ∃ L, L ≤ 8 ∧ b.2 20 (rSv b c) = nI L) : rW a (rAtt b R c) := by
  obtain ⟨L, hL, e⟩ := hl
  have h1 : rW a (rPk (rAt1 b c)) := ((h.up 35 c _ (by decide)).up 36 c _ (by decide)).pk
  rw [rAtt, e, nI_clamp (by omega), rAtM]
  split
  · exact h1
  · split
    · next e he => exact h1.at2 _ _ _ _ _ _ _ (by omega)
    · split
      · exact h1
      · exact (h1.car _ _ _ _ (by omega)).at2 _ _ _ _ _ _ _ hL
theorem rW.sil {a b : rS} (h : rW a b) (R c : Nat) : rW a (rSil b R c) := by
  rw [rSil]
  split
  · exact h
  · split
    · exact ((h.up 29 _ _ (by decide)).up 28 _ _ (by decide)).up 31 _ _ (by decide)
    · exact h.up 29 _ _ (by decide)
/-- the reference's state is in order: R routers, S services, X sessions -/
def rV (s : rS) (R S X : Nat) : Prop := (R ≤ 6 ∧ s.1 9 = nI R) ∧ (S ≤ 16 ∧ s.1 22 = nI S) ∧ (X ≤ 12 ∧ s.1 34 = nI X) ∧ rJ s ∧ (∀ i, i < 16 → ∃ L, L ≤ 8 ∧ s.2 20 i = nI L) ∧ ∀ c, c < X → rSe s c ∧ ∃ q, q < 8 ∧ s.2 32 c = nI q
theorem rSe_cg {s s' : rS} {c : Nat} (h : rSe s c) (e1 : s'.2 26 = s.2 26) (e2 : s'.2 27 = s.2 27) (e3 : s'.2 16 = s.2 16) : rSe s' c := by
  obtain ⟨hc, A, i, B, hA, hA', hi, hi', hB, hB', _⟩ := h
  exact rSe_mk hc (by rw [e1]; exact hA) hA' (by rw [e2]; exact hi) hi' (by rw [e3]; exact hB) hB'
theorem rV.w {s s' : rS} {R S X : Nat} (h : rV s R S X) (g : rW s s') : rV s' R S X := by
  obtain ⟨⟨a1, a2⟩, ⟨b1, b2⟩, ⟨c1, c2⟩, d, e, f⟩ := h
  refine ⟨⟨a1, (g.1 9 (by decide) (by decide)).trans a2⟩, ⟨b1, (g.1 22 (by decide) (by decide)).trans b2⟩, ⟨c1, (g.1 34 (by decide) (by decide)).trans c2⟩, rJ_cg d (g.2.1 7 (by decide)) (g.2.1 8 (by decide)), g.2.2 e, fun c hc => ⟨rSe_cg (f c hc).1 (g.2.1 26 (by decide)) (g.2.1 27 (by decide)) (g.2.1 16 (by decide)), ?_⟩⟩
  rw [g.2.1 32 (by decide)]
  exact (f c hc).2
theorem rV.k {s : rS} {R S X c : Nat} (h : rV s R S X) (hc : c < X) : rK s R c := ⟨h.1.1, h.1.2, fun k hk => (h.2.2.2.1 k hk).1, (h.2.2.2.2.2 c hc).1, h.2.2.2.2.1, (h.2.2.2.2.2 c hc).2⟩
/-- the same but for the tables -/
def rX (s s' : rS) : Prop := (∀ f, f ≠ 21 → s'.1 f = s.1 f) ∧ (∀ j, 16 ≤ j → s'.2 j = s.2 j) ∧ s'.2 6 = s.2 6 ∧ (rJ s → rJ s')
theorem rX.tr {a b c : rS} (h : rX a b) (g : rX b c) : rX a c := ⟨fun f n1 => (g.1 f n1).trans (h.1 f n1), fun j hj => (g.2.1 j hj).trans (h.2.1 j hj), g.2.2.1.trans h.2.2.1, fun z => g.2.2.2 (h.2.2.2 z)⟩
theorem rX.rf (s : rS) : rX s s := ⟨fun _ _ => rfl, fun _ _ => rfl, rfl, fun h => h⟩
theorem rV.x {s s' : rS} {R S X : Nat} (h : rV s R S X) (g : rX s s') : rV s' R S X := by
  obtain ⟨⟨a1, a2⟩, ⟨b1, b2⟩, ⟨c1, c2⟩, d, e, f⟩ := h
  refine ⟨⟨a1, (g.1 9 (by decide)).trans a2⟩, ⟨b1, (g.1 22 (by decide)).trans b2⟩, ⟨c1, (g.1 34 (by decide)).trans c2⟩, g.2.2.2 d, by rw [g.2.1 20 (by decide)]; exact e, fun c hc => ⟨rSe_cg (f c hc).1 (g.2.1 26 (by decide)) (g.2.1 27 (by decide)) (g.2.1 16 (by decide)), ?_⟩⟩
  rw [g.2.1 32 (by decide)]
  exact (f c hc).2
theorem rX.now (s : rS) (x : Int32) : rX s (upd s.1 21 x, s.2) := ⟨fun f n => by simp [upd, n], fun _ _ => rfl, rfl, fun h => h⟩
theorem rX.pt {s : rS} {F : Nat → Nat → Int32} {b c : Nat} (h : ∀ j, 16 ≤ j → F j = s.2 j) (h6 : F 6 = s.2 6) (hJ : rJ s → ∀ k, k < 48 → rRt (F 8 k) ∧ (0 < F 7 k → ∃ r, r < 6 ∧ F 8 k = nI r)) : rX s (rPt F s b c) := by
  refine ⟨fun _ _ => rfl, fun j hj => ?_, ?_, fun z k hk => ?_⟩
  · funext k; simp only [rPt]; rw [h j hj]; split <;> rfl
  · funext k; simp only [rPt]; rw [h6]; split <;> rfl
  · have e : ∀ j, (rPt F s b c).2 j k = if b ≤ k ∧ k < b + c then F j k else s.2 j k := fun _ => rfl
    rw [e, e]
    by_cases g : b ≤ k ∧ k < b + c
    · rw [if_pos g, if_pos g]; exact hJ z k hk
    · rw [if_neg g, if_neg g]; exact z k hk
theorem rX.cp (s : rS) : rX s (rPt (rCpF s) s 0 48) := rX.pt (fun j hj => by funext k; simp only [rCpF]; rw [if_neg (by omega), if_neg (by omega), if_neg (by omega)]) rfl (fun h => h)
theorem rX.age (s : rS) : rX s (rPt (rAgeF s) s 0 48) := rX.pt (fun j hj => by funext k; simp only [rAgeF]; rw [if_neg (by omega), if_neg (by omega)]) rfl (fun h k hk => ⟨(h k hk).1, by
  show 0 < (if 0 < s.2 7 k ∧ s.2 10 k = 2 then (-1 : Int32) else s.2 7 k) → _
  split
  · intro z; exact absurd z (by decide)
  · exact (h k hk).2⟩)
theorem rX.zn (s : rS) : rX s (rZones s) := (rX.pt (F := rZ1 s) (b := 0) (c := 48) (fun j hj => by funext k; simp only [rZ1]; rw [if_neg (by omega)]) rfl (fun h => h)).tr (rX.pt (fun j hj => by funext k; simp only [rZ2]; rw [if_neg (by omega)]) rfl (fun h => h))
theorem rX.ta {R : Nat} (hR : R ≤ 6) (l r : Nat) (s : rS) : rX s (rTa R l r s) :=
  rTa_P (P := fun s' => rX s s') hR (fun b r t p n ht h => h.tr ⟨fun f _ => by rw [rTake_1], fun j hj => rTake_2 b r t p n (by omega), rTake_2 b r t p n (by decide), rJ_take ht⟩) l r s (rX.rf s)
theorem rX.ts {R : Nat} (hR : R ≤ 6) (r : Nat) (s : rS) : rX s (rTs r R 0 s) :=
  rTs_P (P := fun s' => rX s s') (fun b t p n ht h => h.tr ⟨fun f _ => by rw [rTake_1], fun j hj => rTake_2 b r t p n (by omega), rTake_2 b r t p n (by decide), rJ_take ht⟩) R 0 s (by omega) (rX.rf s)
