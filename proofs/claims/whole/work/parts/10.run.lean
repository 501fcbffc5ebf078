/-- many steps: it stops at the places in S, behind a call, and when n is used up -/
def xrun (S : List Nat) (Rf : Option Value → xM → Nat → Prop) (E : xE) (i : Nat) (Z : List Frame → Array Value → State → State → Prop) : Nat → Nat → List (Option Value) → List Value → xM → Nat → Nat → Nat → Prop
  | 0, pc, L, st, M, nx, cb, sb => XZ E i Z pc L st M nx cb sb
  | n + 1, pc, L, st, M, nx, cb, sb => if S.elem pc = true then XZ E i Z pc L st M nx cb sb else
    match xtab i pc with
    | some ro => xstep (xrun S Rf E i Z n) (XZ E i Z) Rf E pc ro.2 L st M nx cb sb ro.1
    | none => False
section XR
variable {E : xE} {i : Nat} {Z : List Frame → Array Value → State → State → Prop} {Rf : Option Value → xM → Nat → Prop} {S : List Nat}
theorem xrun_ok (hR : ∀ pc L v M nx cb sb ins, decode (xcode i) pc = .ok (ins, 1) → xretI i ins v → Rf v M nx → XZ E i Z pc L v.toList M nx cb sb) :
    ∀ (n pc : Nat) (L : List (Option Value)) (st : List Value) (M : xM) (nx cb sb : Nat), xrun S Rf E i Z n pc L st M nx cb sb → XZ E i Z pc L st M nx cb sb
  | 0, _, _, _, _, _, _, _, h => h
  | n + 1, pc, L, st, M, nx, cb, sb, h => by
    unfold xrun at h
    split at h
    · exact h
    · split at h
      · next ro ht => exact xstep_ok (fun pc L st M nx cb sb hk => xrun_ok hR n pc L st M nx cb sb hk) (fun _ _ _ _ _ _ _ hk => hk) hR ht h
      · exact h.elim
/-- the first step whatever S says -/
theorem xrun_go (hR : ∀ pc L v M nx cb sb ins, decode (xcode i) pc = .ok (ins, 1) → xretI i ins v → Rf v M nx → XZ E i Z pc L v.toList M nx cb sb) (n : Nat) {pc : Nat} {L : List (Option Value)} {st : List Value} {M : xM} {nx cb sb : Nat} {ro : xI × Nat} (ht : xtab i pc = some ro)
    (h : xstep (xrun S Rf E i Z n) (XZ E i Z) Rf E pc ro.2 L st M nx cb sb ro.1) : XZ E i Z pc L st M nx cb sb :=
  xstep_ok (fun pc L st M nx cb sb hk => xrun_ok hR n pc L st M nx cb sb hk) (fun _ _ _ _ _ _ _ hk => hk) hR ht h
theorem xret_ok {Q : Option Value → xM → Nat → Prop} : ∀ pc L v M nx cb sb ins, decode (xcode i) pc = .ok (ins, 1) → xretI i ins v → Q v M nx → XZ E i (xZ E i Q) pc L v.toList M nx cb sb := by
  intro pc L v M nx cb sb ins hd hr hQ g p e s m args below meth c H locs cells slots ls C hM hn hl hL hc hs hq
  refine W.widen (k := xmc i) (n := xms i) (by omega) (by omega) ?_
  subst hn
  have hx := C.1
  have hb := C.2.1
  have hret := C.2.2.2.1
  have hlk := C.2.2.2.2.1
  rcases hr with ⟨rfl, x, t, rfl, h1, h2⟩ | ⟨rfl, h1, h2⟩ | ⟨rfl, h1, rfl⟩
  · cases hty : xret i with
    | none => rw [hty] at h1; cases h1
    | some ty =>
      rw [hty] at h1 hret
      have hnar : narrow ty (.int x) = .int x := by
        cases ty <;> cases h1 <;> first | exact (xfit_spec (ty := .byte) (v := .int x) h2).1 | exact (xfit_spec (ty := .char) (v := .int x) h2).1 | exact (xfit_spec (ty := .int) (v := .int x) h2).1 | exact (xfit_spec (ty := .boolean) (v := .int x) h2).1
      exact W.zret hx hb hret hnar (fun t ht hW => ⟨some (.int x), M, rfl, by rw [ht]; exact hM, by rw [ht]; exact hQ⟩) hq hd hlk
  · cases hty : xret i with
    | none => rw [hty] at h1; cases h1
    | some ty =>
      rw [hty] at h1 hret
      have hrt : (∃ n, ty = .object n) ∨ ∃ t, ty = .array t := by
        cases ty <;> first | (cases h1; done) | exact Or.inl ⟨_, rfl⟩ | exact Or.inr ⟨_, rfl⟩
      rcases h2 with rfl | ⟨a, rfl⟩
      · exact W.aret hx hb hret hrt (Or.inl rfl) (fun t ht hW => ⟨some .null, M, rfl, by rw [ht]; exact hM, by rw [ht]; exact hQ⟩) hq hd hlk
      · exact W.aret hx hb hret hrt (Or.inr ⟨a, rfl⟩) (fun t ht hW => ⟨some (.ref a), M, rfl, by rw [ht]; exact hM, by rw [ht]; exact hQ⟩) hq hd hlk
  · rw [h1] at hret
    exact W.vret hx hb hret (fun t ht hW => ⟨none, M, rfl, by rw [ht]; exact hM, by rw [ht]; exact hQ⟩) hq hd hlk
/-- a method from its entry -/
theorem XC.run {As : List Value} {M : xM} {nx : Nat} {Q : Option Value → xM → Nat → Prop} (n : Nat) (S : List Nat) (h : xrun S Q E i (xZ E i Q) n 0 (xentry As (xmax i)) [] M nx (xmc i) (xms i)) : XC E i As M nx Q := xrun_ok xret_ok n _ _ _ _ _ _ _ h
theorem XZ.run {pc : Nat} {L : List (Option Value)} {st : List Value} {M : xM} {nx cb sb : Nat} {Q : Option Value → xM → Nat → Prop} (n : Nat) (S : List Nat) (h : xrun S Q E i (xZ E i Q) n pc L st M nx cb sb) : XZ E i (xZ E i Q) pc L st M nx cb sb := xrun_ok xret_ok n _ _ _ _ _ _ _ h
theorem XZ.run1 {pc : Nat} {L : List (Option Value)} {st : List Value} {M : xM} {nx cb sb : Nat} {Q : Option Value → xM → Nat → Prop} {ro : xI × Nat} (n : Nat) (S : List Nat) (ht : xtab i pc = some ro) (h : xstep (xrun S Q E i (xZ E i Q) n) (XZ E i (xZ E i Q)) Q E pc ro.2 L st M nx cb sb ro.1) : XZ E i (xZ E i Q) pc L st M nx cb sb := xrun_go xret_ok n ht h
/-- a weaker end -/
theorem XZ.weak {pc : Nat} {L L' : List (Option Value)} {st : List Value} {M : xM} {nx cb sb cb' sb' : Nat} (h : XZ E i Z pc L' st M nx cb' sb') (hn : L'.length = L.length) (hs : ∀ (j : Nat) (w : Value), L'[j]? = some (some w) → L[j]? = some (some w)) (h1 : cb' ≤ cb) (h2 : sb' ≤ sb) : XZ E i Z pc L st M nx cb sb :=
  fun g p e s m args below meth c H locs cells slots ls C hM hnx hl hL hc hsl hq => h g p e s m args below meth c H locs cells slots ls C hM hnx (hl.less hn hs) (by rw [hn]; exact hL) (by omega) (by omega) hq
theorem xZ_mono {Q Q' : Option Value → xM → Nat → Prop} (h : ∀ v M n, Q v M n → Q' v M n) {below : List Frame} {args : Array Value} {s t : State} (z : xZ E i Q below args s t) : xZ E i Q' below args s t := by
  obtain ⟨o, h1, h2, ⟨v, M, h3, h4, h5⟩, h6⟩ := z
  exact ⟨o, h1, h2, ⟨v, M, h3, h4, h _ _ _ h5⟩, h6⟩
theorem XZ.mono {Q Q' : Option Value → xM → Nat → Prop} (h : ∀ v M n, Q v M n → Q' v M n) {pc : Nat} {L : List (Option Value)} {st : List Value} {M : xM} {nx cb sb : Nat} (z : XZ E i (xZ E i Q) pc L st M nx cb sb) : XZ E i (xZ E i Q') pc L st M nx cb sb := by
  intro g p e s m args below meth c H locs cells slots ls C hM hn hl hL hc hs hq T hT X
  obtain ⟨t, a1, a2⟩ := z g p e s m args below meth c H locs cells slots ls C hM hn hl hL hc hs hq T hT X
  exact ⟨t, a1, xZ_mono h a2⟩
theorem XC.mono {As : List Value} {M : xM} {nx : Nat} {Q Q' : Option Value → xM → Nat → Prop} (z : XC E i As M nx Q) (h : ∀ v M n, Q v M n → Q' v M n) : XC E i As M nx Q' := XZ.mono h z
end XR
