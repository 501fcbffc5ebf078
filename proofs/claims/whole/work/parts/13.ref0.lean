/-! THE REFERENCE: one object at m, 37 arrays at m + 1 .. m + 37 -/
/-- its numbers by the place of the field, its arrays by their number -/
abbrev rS : Type := (Nat → Int32) × (Nat → Nat → Int32)
def rtyL : List Nat := [0, 3, 3, 0, 2, 0, 2, 0, 0, 0, 0, 2, 0, 0, 0, 2, 0, 2, 0, 0, 0, 0, 0, 0, 0, 0, 0, 0, 2, 0, 0, 0, 0, 0, 0, 0, 0, 0]
def rlnL : List Nat := [0, 32, 1280, 40, 64, 6, 6, 48, 48, 48, 48, 48, 48, 48, 48, 48, 16, 16, 64, 16, 16, 128, 128, 128, 128, 16, 12, 12, 12, 12, 12, 12, 12, 12, 12, 12, 12, 12]
def rty (j : Nat) : Nat := rtyL.getD j 0
def rln (j : Nat) : Nat := rlnL.getD j 0
def rFs (m : Nat) (s : Nat → Int32) : List Value := [.int (s 0), .int (s 1), .int (s 2), .ref (m + 1), .int (s 4), .ref (m + 2), .ref (m + 3), .int (s 7), .ref (m + 4), .int (s 9), .ref (m + 5), .ref (m + 6), .ref (m + 7), .ref (m + 8), .ref (m + 9), .ref (m + 10), .ref (m + 11), .ref (m + 12), .ref (m + 13), .ref (m + 14), .ref (m + 15), .int (s 21), .int (s 22), .ref (m + 16), .ref (m + 17), .ref (m + 18), .ref (m + 19), .ref (m + 20), .ref (m + 21), .ref (m + 22), .ref (m + 23), .ref (m + 24), .ref (m + 25), .int (s 33), .int (s 34), .ref (m + 26), .ref (m + 27), .ref (m + 28), .ref (m + 29), .ref (m + 30), .ref (m + 31), .ref (m + 32), .ref (m + 33), .ref (m + 34), .ref (m + 35), .ref (m + 36), .ref (m + 37), .int (s 47), .int (s 48)]
def rRep (M : xM) (m : Nat) (s : rS) : Prop := M m = some (.inl (12, rFs m s.1)) ∧ ∀ j, 1 ≤ j → j ≤ 37 → M (m + j) = some (.inr (rty j, rln j, fun k => .int (s.2 j k)))
theorem rO {M : xM} {m : Nat} {s : rS} (h : rRep M m s) : M m = some (.inl (12, [.int (s.1 0), .int (s.1 1), .int (s.1 2), .ref (m + 1), .int (s.1 4), .ref (m + 2), .ref (m + 3), .int (s.1 7), .ref (m + 4), .int (s.1 9), .ref (m + 5), .ref (m + 6), .ref (m + 7), .ref (m + 8), .ref (m + 9), .ref (m + 10), .ref (m + 11), .ref (m + 12), .ref (m + 13), .ref (m + 14), .ref (m + 15), .int (s.1 21), .int (s.1 22), .ref (m + 16), .ref (m + 17), .ref (m + 18), .ref (m + 19), .ref (m + 20), .ref (m + 21), .ref (m + 22), .ref (m + 23), .ref (m + 24), .ref (m + 25), .int (s.1 33), .int (s.1 34), .ref (m + 26), .ref (m + 27), .ref (m + 28), .ref (m + 29), .ref (m + 30), .ref (m + 31), .ref (m + 32), .ref (m + 33), .ref (m + 34), .ref (m + 35), .ref (m + 36), .ref (m + 37), .int (s.1 47), .int (s.1 48)])) := h.1
theorem rA {M : xM} {m : Nat} {s : rS} (h : rRep M m s) : M (m + 1) = some (.inr (3, 32, fun k => .int (s.2 1 k))) ∧ M (m + 2) = some (.inr (3, 1280, fun k => .int (s.2 2 k))) ∧ M (m + 3) = some (.inr (0, 40, fun k => .int (s.2 3 k))) ∧ M (m + 4) = some (.inr (2, 64, fun k => .int (s.2 4 k))) ∧ M (m + 5) = some (.inr (0, 6, fun k => .int (s.2 5 k))) ∧ M (m + 6) = some (.inr (2, 6, fun k => .int (s.2 6 k))) ∧ M (m + 7) = some (.inr (0, 48, fun k => .int (s.2 7 k))) ∧ M (m + 8) = some (.inr (0, 48, fun k => .int (s.2 8 k))) ∧ M (m + 9) = some (.inr (0, 48, fun k => .int (s.2 9 k))) ∧ M (m + 10) = some (.inr (0, 48, fun k => .int (s.2 10 k))) ∧ M (m + 11) = some (.inr (2, 48, fun k => .int (s.2 11 k))) ∧ M (m + 12) = some (.inr (0, 48, fun k => .int (s.2 12 k))) ∧ M (m + 13) = some (.inr (0, 48, fun k => .int (s.2 13 k))) ∧ M (m + 14) = some (.inr (0, 48, fun k => .int (s.2 14 k))) ∧ M (m + 15) = some (.inr (2, 48, fun k => .int (s.2 15 k))) ∧ M (m + 16) = some (.inr (0, 16, fun k => .int (s.2 16 k))) ∧ M (m + 17) = some (.inr (2, 16, fun k => .int (s.2 17 k))) ∧ M (m + 18) = some (.inr (0, 64, fun k => .int (s.2 18 k))) ∧ M (m + 19) = some (.inr (0, 16, fun k => .int (s.2 19 k))) ∧ M (m + 20) = some (.inr (0, 16, fun k => .int (s.2 20 k))) ∧ M (m + 21) = some (.inr (0, 128, fun k => .int (s.2 21 k))) ∧ M (m + 22) = some (.inr (0, 128, fun k => .int (s.2 22 k))) ∧ M (m + 23) = some (.inr (0, 128, fun k => .int (s.2 23 k))) ∧ M (m + 24) = some (.inr (0, 128, fun k => .int (s.2 24 k))) ∧ M (m + 25) = some (.inr (0, 16, fun k => .int (s.2 25 k))) ∧ M (m + 26) = some (.inr (0, 12, fun k => .int (s.2 26 k))) ∧ M (m + 27) = some (.inr (0, 12, fun k => .int (s.2 27 k))) ∧ M (m + 28) = some (.inr (2, 12, fun k => .int (s.2 28 k))) ∧ M (m + 29) = some (.inr (0, 12, fun k => .int (s.2 29 k))) ∧ M (m + 30) = some (.inr (0, 12, fun k => .int (s.2 30 k))) ∧ M (m + 31) = some (.inr (0, 12, fun k => .int (s.2 31 k))) ∧ M (m + 32) = some (.inr (0, 12, fun k => .int (s.2 32 k))) ∧ M (m + 33) = some (.inr (0, 12, fun k => .int (s.2 33 k))) ∧ M (m + 34) = some (.inr (0, 12, fun k => .int (s.2 34 k))) ∧ M (m + 35) = some (.inr (0, 12, fun k => .int (s.2 35 k))) ∧ M (m + 36) = some (.inr (0, 12, fun k => .int (s.2 36 k))) ∧ M (m + 37) = some (.inr (0, 12, fun k => .int (s.2 37 k))) :=
  ⟨h.2 1 (by decide) (by decide), h.2 2 (by decide) (by decide), h.2 3 (by decide) (by decide), h.2 4 (by decide) (by decide), h.2 5 (by decide) (by decide), h.2 6 (by decide) (by decide), h.2 7 (by decide) (by decide), h.2 8 (by decide) (by decide), h.2 9 (by decide) (by decide), h.2 10 (by decide) (by decide), h.2 11 (by decide) (by decide), h.2 12 (by decide) (by decide), h.2 13 (by decide) (by decide), h.2 14 (by decide) (by decide), h.2 15 (by decide) (by decide), h.2 16 (by decide) (by decide), h.2 17 (by decide) (by decide), h.2 18 (by decide) (by decide), h.2 19 (by decide) (by decide), h.2 20 (by decide) (by decide), h.2 21 (by decide) (by decide), h.2 22 (by decide) (by decide), h.2 23 (by decide) (by decide), h.2 24 (by decide) (by decide), h.2 25 (by decide) (by decide), h.2 26 (by decide) (by decide), h.2 27 (by decide) (by decide), h.2 28 (by decide) (by decide), h.2 29 (by decide) (by decide), h.2 30 (by decide) (by decide), h.2 31 (by decide) (by decide), h.2 32 (by decide) (by decide), h.2 33 (by decide) (by decide), h.2 34 (by decide) (by decide), h.2 35 (by decide) (by decide), h.2 36 (by decide) (by decide), h.2 37 (by decide) (by decide)⟩
/-- outside the reference nothing has changed since M0 -/
def rR (M0 M : xM) (m : Nat) (s : rS) : Prop := rRep M m s ∧ ∀ q, ¬ (m ≤ q ∧ q ≤ m + 37) → M q = M0 q
def up2 (a : Nat → Nat → Int32) (j i : Nat) (x : Int32) : Nat → Nat → Int32 := fun j' i' => if j' = j then (if i' = i then x else a j i') else a j' i'
theorem up2_s (a : Nat → Nat → Int32) (j i : Nat) (x : Int32) (i' : Nat) : up2 a j i x j i' = if i' = i then x else a j i' := by simp [up2]
theorem up2_n {a : Nat → Nat → Int32} {j j' i : Nat} {x : Int32} (h : j' ≠ j) : up2 a j i x j' = a j' := by funext i'; simp [up2, h]
theorem rR.arr {M0 M : xM} {m : Nat} {s : rS} (h : rR M0 M m s) (j i : Nat) (x : Int32) (h1 : 1 ≤ j) (h2 : j ≤ 37) : rR M0 (xput M (m + j) (.inr (rty j, rln j, updV (fun k => .int (s.2 j k)) i (.int x)))) m (s.1, up2 s.2 j i x) := by
  refine ⟨⟨?_, fun j' g1 g2 => ?_⟩, fun q hq => ?_⟩
  · rw [xput_ne (by omega)]
    exact h.1.1
  · by_cases e : j' = j
    · subst e
      rw [xput_same]
      congr 4
      funext k
      by_cases ek : k = i
      · simp [updV, up2, ek]
      · simp [updV, up2, ek]
    · rw [xput_ne (by omega), h.1.2 j' g1 g2]
      simp [up2, e]
  · rw [xput_ne (by omega)]
    exact h.2 q hq
theorem rR.fld {M0 M : xM} {m : Nat} {s : rS} (h : rR M0 M m s) {fs : List Value} {s1 : Nat → Int32} (hf : fs = rFs m s1) : rR M0 (xput M m (.inl (12, fs))) m (s1, s.2) := by
  subst hf
  refine ⟨⟨xput_same _ _ _, fun j' g1 g2 => ?_⟩, fun q hq => ?_⟩
  · rw [xput_ne (by omega)]
    exact h.1.2 j' g1 g2
  · rw [xput_ne (by omega)]
    exact h.2 q hq
theorem rR.rf {M : xM} {m : Nat} {s : rS} (h : rRep M m s) : rR M M m s := ⟨h, fun _ _ => rfl⟩
theorem nIx {r N : Nat} (h : r < N) (hN : N < 2 ^ 31 := by decide) : (nI r < 0) = False ∧ (nI r).toNatClampNeg = r ∧ (r < N) = True := ⟨eq_false (nI_pos (by omega)), nI_clamp (by omega), eq_true h⟩
theorem nIm4 (r : Nat) : (4 : Int32) * nI r = nI (4 * r) := (Int32.ofNat_mul 4 r).symm
theorem nIm8 (r : Nat) : (8 : Int32) * nI r = nI (8 * r) := (Int32.ofNat_mul 8 r).symm
theorem nIm32 (r : Nat) : (32 : Int32) * nI r = nI (32 * r) := (Int32.ofNat_mul 32 r).symm
theorem xputA (M : xM) (a : Nat) (c : xC) (q : Nat) : xput M a c q = if q = a then some c else M q := rfl
/-- from a loop's head: the first step whatever S says -/
theorem XZ.runH {E : xE} {i pc : Nat} {L : List (Option Value)} {st : List Value} {M : xM} {nx cb sb : Nat} {Q : Option Value → xM → Nat → Prop} (n : Nat) (S : List Nat) (h : match xtab i pc with
    | some ro => xstep (xrun S Q E i (xZ E i Q) n) (XZ E i (xZ E i Q)) Q E pc ro.2 L st M nx cb sb ro.1
    | none => False) : XZ E i (xZ E i Q) pc L st M nx cb sb := by
  split at h
  · next ro ht => exact XZ.run1 n S ht h
  · exact h.elim
/-- an index that is in -/
theorem nIv {x : Int32} {X : Nat} (h1 : ¬ x < 0) (h2 : ¬ nI X ≤ x) (hX : X < 2 ^ 31) : ∃ j, j < X ∧ x = nI j := by
  obtain ⟨j, hj, rfl⟩ := nI_of h1
  exact ⟨j, Nat.not_le.mp fun z => h2 (nI_le z hj), rfl⟩
/-- a compare, both ways round -/
theorem lT {a b : Int32} (h : a < b) : (a < b) = True ∧ (b ≤ a) = False := ⟨eq_true h, eq_false (k2_nle h)⟩
theorem lF {a b : Int32} (h : ¬ a < b) : (a < b) = False ∧ (b ≤ a) = True := ⟨eq_false h, eq_true (k2_le h)⟩
theorem eT {a b : Int32} (h : a ≤ b) : (a ≤ b) = True ∧ (b < a) = False := ⟨eq_true h, eq_false (k2_nlt h)⟩
theorem eF {a b : Int32} (h : ¬ a ≤ b) : (a ≤ b) = False ∧ (b < a) = True := ⟨eq_false h, eq_true (k2_lt h)⟩
