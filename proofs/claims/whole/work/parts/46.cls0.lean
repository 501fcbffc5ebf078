/-! THE CLASS: its addresses A (by group and place), its numbers v (by kind, owner and place) -/
/-- 0: the object; 1: the builder's bytes, their length; 2: counts of networks, routers, services, sessions; 3 networks, 4 routers, 5 services, 6 sessions; 7 names, 8 their bytes, 9 their lengths; 10 a session's service -/
abbrev cA : Type := Nat → Nat → Nat
abbrev cV : Type := Nat → Nat → Nat → Int32
/-- where a cell stands -/
def cad (A : cA) (kd i : Nat) : Nat := match kd with
  | 0 => A 0 0
  | 1 => A 0 0 + 9
  | 2 => A 0 0 + 10
  | 3 => A 0 0 + 11
  | 4 => A 0 0 + 3
  | 5 => A 0 0 + 4
  | 6 => A 0 0 + 5
  | 7 => A 0 0 + 7
  | 8 => A 0 0 + 8
  | 9 => A 0 0 + 6
  | 10 => A 4 (i / 8) + (5 + i % 8)
  | 11 => A 5 (i / 8) + (3 + i % 8)
  | 12 => A 3 i
  | 13 => A 3 i + 1
  | 14 => A 4 i
  | 15 => A 4 i + 1
  | 16 => A 4 i + 2
  | 17 => A 4 i + 3
  | 18 => A 4 i + 4
  | 19 => A 5 i
  | 20 => A 5 i + 1
  | 21 => A 5 i + 2
  | 22 => A 6 i
  | 23 => A 0 0 + 1
  | _ => A 1 0
/-- which cells there are -/
def clv (A : cA) (kd i : Nat) : Prop := match kd with
  | 10 => i < 8 * A 2 1
  | 11 => i < 8 * A 2 2
  | 12 => i < A 2 0
  | 13 => i < A 2 0
  | 14 => i < A 2 1
  | 15 => i < A 2 1
  | 16 => i < A 2 1
  | 17 => i < A 2 1
  | 18 => i < A 2 1
  | 19 => i < A 2 2
  | 20 => i < A 2 2
  | 21 => i < A 2 2
  | 22 => i < A 2 3
  | kd => i = 0 ∧ kd ≤ 24
/-- what stands in a cell -/
def cct (A : cA) (kd i : Nat) (g : Nat → Int32) : xC := match kd with
  | 0 => .inl (0, [.int (g 0), .int (g 1), .int (g 2), .ref (A 0 0 + 1), .ref (A 0 0 + 3), .ref (A 0 0 + 6), .ref (A 0 0 + 7), .int (g 7), .ref (A 0 0 + 8), .int (g 9), .ref (A 0 0 + 9), .int (g 11), .ref (A 0 0 + 10), .ref (A 0 0 + 11), .int (g 14)])
  | 1 => .inr (0, 16, fun k => .int (g k))
  | 2 => .inr (0, 8, fun k => .int (g k))
  | 3 => .inr (0, 16, fun k => .int (g k))
  | 4 => .inl (2, [.ref (A 0 0 + 4), .int (g 1), .ref (A 0 0 + 5), .int (g 3)])
  | 5 => .inr (4, 8, fun k => if k < A 2 0 then .ref (A 3 k) else .null)
  | 6 => .inr (5, 6, fun k => if k < A 2 1 then .ref (A 4 k) else .null)
  | 7 => .inr (6, 16, fun k => if k < A 2 2 then .ref (A 5 k) else .null)
  | 8 => .inr (7, 12, fun k => if k < A 2 3 then .ref (A 6 k) else .null)
  | 9 => .inl (3, [.ref (A 0 0 + 3), .int (g 1), .int (g 2)])
  | 10 => .inl (7, [.int (g 0), .int (g 1), .int (g 2), .int (g 3), .int (g 4), .int (g 5), .int (g 6)])
  | 11 => .inl (10, [.int (g 0), .int (g 1), .int (g 2), .int (g 3), .int (g 4)])
  | 12 => .inl (5, [.ref (A 7 i), .ref (A 3 i + 1)])
  | 13 => .inr (2, 8, fun k => .int (g k))
  | 14 => .inl (6, [.ref (A 4 i + 1), .int (g 1), .int (g 2), .ref (A 4 i + 2), .ref (A 4 i + 3), .ref (A 4 i + 4)])
  | 15 => .inr (2, 8, fun k => .int (g k))
  | 16 => .inr (8, 8, fun k => if k < 8 then .ref (A 4 i + (5 + k)) else .null)
  | 17 => .inr (0, 8, fun k => .int (g k))
  | 18 => .inr (0, 8, fun k => .int (g k))
  | 19 => .inl (9, [.int (g 0), .ref (A 7 (8 + i)), .ref (A 7 (24 + i)), .int (g 3), .ref (A 5 i + 1), .int (g 5), .ref (A 5 i + 2)])
  | 20 => .inr (0, 4, fun k => .int (g k))
  | 21 => .inr (9, 8, fun k => if k < 8 then .ref (A 5 i + (3 + k)) else .null)
  | 22 => .inl (11, [.int (g 0), .int (g 1), .ref (A 5 (A 10 i)), .int (g 3), .int (g 4), .int (g 5), .int (g 6), .int (g 7), .int (g 8), .int (g 9), .int (g 10), .int (g 11), .int (g 12)])
  | 23 => .inl (1, [.ref (A 1 0), .int 0, .int (g 2), .int (g 3)])
  | _ => .inr (1, A 1 1, fun k => .int (g k))
def ccl (A : cA) (q : Nat) : Prop := ∃ kd i, clv A kd i ∧ cad A kd i = q
/-- the cells stand apart, above the start and below B -/
def cI (E : xE) (A : cA) (B : Nat) : Prop := (∃ O : Nat → Nat × Nat, ∀ kd i, clv A kd i → O (cad A kd i) = (kd, i) ∧ xb E ≤ cad A kd i ∧ cad A kd i < B) ∧ A 2 0 ≤ 8 ∧ A 2 1 ≤ 6 ∧ A 2 2 ≤ 16 ∧ A 2 3 ≤ 12 ∧ ∀ c, c < A 2 3 → A 10 c < A 2 2
/-- the class with numbers v stands in M; besides nothing has changed since M0 -/
def cR (E : xE) (B : Nat) (M0 M : xM) (A : cA) (v : cV) : Prop := cI E A B ∧ (∀ kd i, clv A kd i → M (cad A kd i) = some (cct A kd i (v kd i))) ∧ ∀ q, ¬ ccl A q → M q = M0 q
def uv (v : cV) (kd i : Nat) (g : Nat → Int32) : cV := fun kd' i' => if kd' = kd ∧ i' = i then g else v kd' i'
theorem uv_s (v : cV) (kd i : Nat) (g : Nat → Int32) : uv v kd i g kd i = g := by simp [uv]
theorem uv_n {v : cV} {kd i kd' i' : Nat} {g : Nat → Int32} (h : ¬ (kd' = kd ∧ i' = i)) : uv v kd i g kd' i' = v kd' i' := by simp only [uv]; rw [if_neg h]
theorem uv_k {v : cV} {kd i kd' : Nat} {g : Nat → Int32} (h : kd' ≠ kd) : uv v kd i g kd' = v kd' := by funext i'; simp [uv, h]
theorem cI.apart {E : xE} {A : cA} {B kd i kd' i' : Nat} (h : cI E A B) (h1 : clv A kd i) (h2 : clv A kd' i') (e : cad A kd i = cad A kd' i') : kd = kd' ∧ i = i' := by
  obtain ⟨O, hO⟩ := h.1
  have a := (hO kd i h1).1
  have b := (hO kd' i' h2).1
  rw [e, b] at a
  exact ⟨(Prod.mk.inj a).1.symm, (Prod.mk.inj a).2.symm⟩
theorem cI.lo {E : xE} {A : cA} {B kd i : Nat} (h : cI E A B) (h1 : clv A kd i) : xb E ≤ cad A kd i := by
  obtain ⟨O, hO⟩ := h.1
  exact (hO kd i h1).2.1
theorem cI.hi {E : xE} {A : cA} {B kd i : Nat} (h : cI E A B) (h1 : clv A kd i) : cad A kd i < B := by
  obtain ⟨O, hO⟩ := h.1
  exact (hO kd i h1).2.2
theorem cI.up {E : xE} {A : cA} {B B' : Nat} (h : cI E A B) (hB : B ≤ B') : cI E A B' := by
  obtain ⟨O, hO⟩ := h.1
  exact ⟨⟨O, fun kd i hl => ⟨(hO kd i hl).1, (hO kd i hl).2.1, Nat.lt_of_lt_of_le (hO kd i hl).2.2 hB⟩⟩, h.2⟩
/-- one cell is written anew -/
theorem cR.set {E : xE} {B : Nat} {M0 M M' : xM} {A : cA} {v : cV} (h : cR E B M0 M A v) (kd i : Nat) (hl : clv A kd i) {g : Nat → Int32} (hn : jN M M' (cad A kd i) (cct A kd i g)) : cR E B M0 M' A (uv v kd i g) := by
  refine ⟨h.1, fun kd' i' hl' => ?_, fun q hq => ?_⟩
  · by_cases e : kd' = kd ∧ i' = i
    · obtain ⟨rfl, rfl⟩ := e
      rw [uv_s]
      exact hn.1
    · rw [uv_n e, hn.2 _ (fun z => e (h.1.apart hl' hl z))]
      exact h.2.1 kd' i' hl'
  · rw [hn.2 q (fun z => hq ⟨kd, i, hl, z.symm⟩)]
    exact h.2.2 q hq
/-- as a part that was seen on its own: what is below is kept -/
theorem cR.rf {E : xE} {B : Nat} {M0 M : xM} {A : cA} {v : cV} (h : cR E B M0 M A v) : cR E B M M A v := ⟨h.1, h.2.1, fun _ _ => rfl⟩
theorem cR.tr {E : xE} {B : Nat} {M0 M1 M : xM} {A : cA} {v : cV} (g : ∀ q, ¬ ccl A q → M1 q = M0 q) (h : cR E B M1 M A v) : cR E B M0 M A v := ⟨h.1, h.2.1, fun q hq => (h.2.2 q hq).trans (g q hq)⟩
/-- cells made anew above B change nothing -/
theorem cR.fr {E : xE} {B : Nat} {M0 M M' : xM} {A : cA} {v : cV} (h : cR E B M0 M A v) (g : ∀ q, q < B → M' q = M q) : cR E B M' M' A v := ⟨h.1, fun kd i hl => by rw [g _ (h.1.hi hl)]; exact h.2.1 kd i hl, fun _ _ => rfl⟩
theorem cO {M : xM} {a ci : Nat} {fs : List Value} (h : M a = some (.inl (ci, fs))) : ∀ P, xobj M a ci P = P fs := fun P => by simp [xobj, h]
section CRD
variable {E : xE} {B : Nat} {M0 M : xM} {A : cA} {v : cV}
/-- the class's fixed cells -/
theorem cFx (h : cR E B M0 M A v) : (∀ P, xobj M (A 0 0) 0 P = P [.int (v 0 0 0), .int (v 0 0 1), .int (v 0 0 2), .ref (A 0 0 + 1), .ref (A 0 0 + 3), .ref (A 0 0 + 6), .ref (A 0 0 + 7), .int (v 0 0 7), .ref (A 0 0 + 8), .int (v 0 0 9), .ref (A 0 0 + 9), .int (v 0 0 11), .ref (A 0 0 + 10), .ref (A 0 0 + 11), .int (v 0 0 14)]) ∧
    (∀ P, xarr M (A 0 0 + 9) P = P 0 16 (fun k => .int (v 1 0 k))) ∧ (∀ P, xarr M (A 0 0 + 10) P = P 0 8 (fun k => .int (v 2 0 k))) ∧ (∀ P, xarr M (A 0 0 + 11) P = P 0 16 (fun k => .int (v 3 0 k))) ∧
    (∀ P, xobj M (A 0 0 + 3) 2 P = P [.ref (A 0 0 + 4), .int (v 4 0 1), .ref (A 0 0 + 5), .int (v 4 0 3)]) ∧
    (∀ P, xarr M (A 0 0 + 4) P = P 4 8 (fun k => if k < A 2 0 then .ref (A 3 k) else .null)) ∧ (∀ P, xarr M (A 0 0 + 5) P = P 5 6 (fun k => if k < A 2 1 then .ref (A 4 k) else .null)) ∧
    (∀ P, xarr M (A 0 0 + 7) P = P 6 16 (fun k => if k < A 2 2 then .ref (A 5 k) else .null)) ∧ (∀ P, xarr M (A 0 0 + 8) P = P 7 12 (fun k => if k < A 2 3 then .ref (A 6 k) else .null)) ∧
    (∀ P, xobj M (A 0 0 + 6) 3 P = P [.ref (A 0 0 + 3), .int (v 9 0 1), .int (v 9 0 2)]) :=
  ⟨cO (h.2.1 0 0 ⟨rfl, by decide⟩), fun P => xhar (h.2.1 1 0 ⟨rfl, by decide⟩), fun P => xhar (h.2.1 2 0 ⟨rfl, by decide⟩), fun P => xhar (h.2.1 3 0 ⟨rfl, by decide⟩), cO (h.2.1 4 0 ⟨rfl, by decide⟩), fun P => xhar (h.2.1 5 0 ⟨rfl, by decide⟩), fun P => xhar (h.2.1 6 0 ⟨rfl, by decide⟩), fun P => xhar (h.2.1 7 0 ⟨rfl, by decide⟩), fun P => xhar (h.2.1 8 0 ⟨rfl, by decide⟩), cO (h.2.1 9 0 ⟨rfl, by decide⟩)⟩
theorem cNw (h : cR E B M0 M A v) {n : Nat} (hn : n < A 2 0) : (∀ P, xobj M (A 3 n) 5 P = P [.ref (A 7 n), .ref (A 3 n + 1)]) ∧ (∀ P, xarr M (A 3 n + 1) P = P 2 8 (fun k => .int (v 13 n k))) :=
  ⟨cO (h.2.1 12 n hn), fun P => xhar (h.2.1 13 n hn)⟩
theorem cRo (h : cR E B M0 M A v) {r : Nat} (hr : r < A 2 1) : (∀ P, xobj M (A 4 r) 6 P = P [.ref (A 4 r + 1), .int (v 14 r 1), .int (v 14 r 2), .ref (A 4 r + 2), .ref (A 4 r + 3), .ref (A 4 r + 4)]) ∧ (∀ P, xarr M (A 4 r + 1) P = P 2 8 (fun k => .int (v 15 r k))) ∧ (∀ P, xarr M (A 4 r + 2) P = P 8 8 (fun k => if k < 8 then .ref (A 4 r + (5 + k)) else .null)) ∧ (∀ P, xarr M (A 4 r + 3) P = P 0 8 (fun k => .int (v 17 r k))) ∧ (∀ P, xarr M (A 4 r + 4) P = P 0 8 (fun k => .int (v 18 r k))) :=
  ⟨cO (h.2.1 14 r hr), fun P => xhar (h.2.1 15 r hr), fun P => xhar (h.2.1 16 r hr), fun P => xhar (h.2.1 17 r hr), fun P => xhar (h.2.1 18 r hr)⟩
theorem cad10 (A : cA) {r k : Nat} (hk : k < 8) : cad A 10 (8 * r + k) = A 4 r + (5 + k) := by
  show A 4 ((8 * r + k) / 8) + (5 + (8 * r + k) % 8) = _
  rw [show (8 * r + k) / 8 = r by omega, show (8 * r + k) % 8 = k by omega]
theorem clv10 {A : cA} {r k : Nat} (hr : r < A 2 1) (hk : k < 8) : clv A 10 (8 * r + k) := show 8 * r + k < 8 * A 2 1 by omega
theorem cEnC (h : cR E B M0 M A v) {r k : Nat} (hr : r < A 2 1) (hk : k < 8) : M (A 4 r + (5 + k)) = some (cct A 10 (8 * r + k) (v 10 (8 * r + k))) := cad10 A hk ▸ h.2.1 10 (8 * r + k) (clv10 hr hk)
theorem cEn (h : cR E B M0 M A v) {r k : Nat} (hr : r < A 2 1) (hk : k < 8) : ∀ P, xobj M (A 4 r + (5 + k)) 7 P = P [.int (v 10 (8 * r + k) 0), .int (v 10 (8 * r + k) 1), .int (v 10 (8 * r + k) 2), .int (v 10 (8 * r + k) 3), .int (v 10 (8 * r + k) 4), .int (v 10 (8 * r + k) 5), .int (v 10 (8 * r + k) 6)] := cO (cEnC h hr hk)
theorem cSv (h : cR E B M0 M A v) {i : Nat} (hi : i < A 2 2) : (∀ P, xobj M (A 5 i) 9 P = P [.int (v 19 i 0), .ref (A 7 (8 + i)), .ref (A 7 (24 + i)), .int (v 19 i 3), .ref (A 5 i + 1), .int (v 19 i 5), .ref (A 5 i + 2)]) ∧ (∀ P, xarr M (A 5 i + 1) P = P 0 4 (fun k => .int (v 20 i k))) ∧ (∀ P, xarr M (A 5 i + 2) P = P 9 8 (fun k => if k < 8 then .ref (A 5 i + (3 + k)) else .null)) :=
  ⟨cO (h.2.1 19 i hi), fun P => xhar (h.2.1 20 i hi), fun P => xhar (h.2.1 21 i hi)⟩
theorem cad11 (A : cA) {r k : Nat} (hk : k < 8) : cad A 11 (8 * r + k) = A 5 r + (3 + k) := by
  show A 5 ((8 * r + k) / 8) + (3 + (8 * r + k) % 8) = _
  rw [show (8 * r + k) / 8 = r by omega, show (8 * r + k) % 8 = k by omega]
theorem clv11 {A : cA} {r k : Nat} (hr : r < A 2 2) (hk : k < 8) : clv A 11 (8 * r + k) := show 8 * r + k < 8 * A 2 2 by omega
theorem cLiC (h : cR E B M0 M A v) {r k : Nat} (hr : r < A 2 2) (hk : k < 8) : M (A 5 r + (3 + k)) = some (cct A 11 (8 * r + k) (v 11 (8 * r + k))) := cad11 A hk ▸ h.2.1 11 (8 * r + k) (clv11 hr hk)
theorem cLi (h : cR E B M0 M A v) {r k : Nat} (hr : r < A 2 2) (hk : k < 8) : ∀ P, xobj M (A 5 r + (3 + k)) 10 P = P [.int (v 11 (8 * r + k) 0), .int (v 11 (8 * r + k) 1), .int (v 11 (8 * r + k) 2), .int (v 11 (8 * r + k) 3), .int (v 11 (8 * r + k) 4)] := cO (cLiC h hr hk)
theorem cSe (h : cR E B M0 M A v) {c : Nat} (hc : c < A 2 3) : ∀ P, xobj M (A 6 c) 11 P = P [.int (v 22 c 0), .int (v 22 c 1), .ref (A 5 (A 10 c)), .int (v 22 c 3), .int (v 22 c 4), .int (v 22 c 5), .int (v 22 c 6), .int (v 22 c 7), .int (v 22 c 8), .int (v 22 c 9), .int (v 22 c 10), .int (v 22 c 11), .int (v 22 c 12)] := cO (h.2.1 22 c hc)
end CRD
