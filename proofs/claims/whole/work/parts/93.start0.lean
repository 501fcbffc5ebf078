/-! the start: what the Statement gives of the state, as the machine in short wants it -/
def sNa : Cond → Bool
  | .arrayClass _ => true
  | .arrayOver _ => true
  | .castable _ _ => true
  | .classLink .. => true
  | .code .. => true
  | .constant .. => true
  | .fieldLink .. => true
  | .fieldLinkNest .. => true
  | .initialized _ => true
  | .instanceMethod _ => true
  | .instantiable _ _ => true
  | .lays .. => true
  | .laysFinal .. => true
  | .laysStatic .. => true
  | .methodLink .. => true
  | .methodLinkNest .. => true
  | .native _ => true
  | .privateMethod _ => true
  | .sameMethod .. => true
  | .selects .. => true
  | .soleField .. => true
  | .static _ => true
  | .stringRef .. => true
  | .superclass .. => true
  | _ => false
theorem sNa_ok {w : Cond} {a : Array Value} {s : State} (h : sNa w = true) (hb : w.before a s = true) : w.before #[] s = true := by
  cases w <;> first | exact hb | cases h
theorem sNa_all : ∀ w ∈ lw_tbl, sNa w = true := List.all_eq_true.mp (by decide +kernel)
theorem s_in : ∀ q ∈ xcl, Cond.instantiable q.1 (if q.1 = "java/lang/String" then 4 else q.2.2) ∈ lw_tbl := by decide +kernel
theorem s_D {args : Array Value} {s : State} (hts : ∀ w ∈ lw_tbl, w.before args s = true) : ∃ D : va_G, ∀ (ci : Nat) (q : vw_C), xcl[ci]? = some q → u_Kn s q.1 q.2.1 q.2.2 (D.1 ci) (D.2 ci) := by
  have h0 : ∀ ci : Nat, ∃ r : ClassId × (Nat → Nat), ∀ q : vw_C, xcl[ci]? = some q → u_Kn s q.1 q.2.1 q.2.2 r.1 r.2 := by
    intro ci
    cases hq : xcl[ci]? with
    | none => exact ⟨(0, fun _ => 0), fun q h => by cases h⟩
    | some q =>
      obtain ⟨cC, iS, h⟩ := u_known hts (xcl_ws hq) (hts _ (s_in q (List.mem_of_getElem? hq)))
      exact ⟨(cC, iS), fun q' h' => by cases h'; exact h⟩
  obtain ⟨r, hr⟩ := Classical.axiomOfChoice h0
  exact ⟨(fun ci => (r ci).1, fun ci => (r ci).2), hr⟩
/-- a String constant: the object at a, its bytes at p -/
def sSt (s : State) (D : va_G) (a p N : Nat) (g : List Int32) : Prop :=
  (∃ cell : Cell, s.heap[a]? = some cell ∧ cell.vm.isStatics = false ∧ cell.vm ≠ .unknown ∧ cell.cls = D.1 4 ∧ cell.slots[D.2 4 0]? = some (.ref p) ∧ cell.slots[D.2 4 1]? = some (.int 0)) ∧
  ∃ cell : Cell, s.heap[p]? = some cell ∧ cell.vm.isStatics = false ∧ s.isArrayOf cell .byte ∧ cell.vm ≠ .unknown ∧ cell.slots.size = N ∧ ∀ j : Nat, j < N → cell.slots[j]? = some (.int (g.getD j 0))
theorem s_str {args : Array Value} {s : State} {D : va_G} {tm : Term} {N : Nat} {g : List Int32} (hK : u_Kn s "java/lang/String" xT4 2 (D.1 4) (D.2 4)) (hN : N < 2 ^ 31)
    (hex : (Cond.exactly tm "java/lang/String").before args s = true) (hco : (Cond.eq (.field tm "java/lang/String" "coder" "B") (.int 0)).before args s = true)
    (har : (Cond.arrayOf (.field tm "java/lang/String" "value" "[B") .byte).before args s = true) (hle : (Cond.eq (.length (.field tm "java/lang/String" "value" "[B")) (.int (Int32.ofNat N))).before args s = true)
    (hel : ∀ j : Nat, j < N → (Cond.eq (.elem (.field tm "java/lang/String" "value" "[B") (.int (Int32.ofNat j))) (.int (g.getD j 0))).before args s = true) :
    ∃ a p : Nat, tm.eval args s none [] s = some (.ref a) ∧ sSt s D a p N g := by
  obtain ⟨a, c, cA, kA, q1, q2, q3, q4, q5, q6, -⟩ := Cond.exactly_spec (args := args) (first := s) (o := none) (s := s) (idx := []) (t := tm) (cls := "java/lang/String") hex
  have hA : ∀ a : Nat, a < s.heap.size → ¬ (fun _ : Nat => False) a := fun _ _ h => h
  have hl := va_eqt hle
  obtain ⟨p, ht, cB, r1, r2, r3, r4, r5, r6, -⟩ := va_Tof (ty := .byte) (f := fun j => .int (g.getD j 0)) (A := fun _ => False) hN har hl (fun j hj => va_eqt (hel j hj)) hA
  obtain ⟨cf, k, fi, f, cell, e1, e2, e3, e4, e5, -⟩ := vk_OFof q1 (va_eqt hco) hA
  obtain ⟨cf2, k2, fi2, f2, cell2, d1, d2, d3, d4, d5, -⟩ := vk_OFof q1 ht hA
  cases q3.symm.trans e3
  cases q3.symm.trans d3
  obtain ⟨b, cC, ht2, harr, hv⟩ := Term.length_spec hl
  cases ht2.symm.trans ht
  obtain ⟨g1, g2, g3, -⟩ := State.arrayAt?_spec harr
  cases g1.symm.trans r1
  have hsz : cB.slots.size < 2 ^ 31 := by
    have hl2 := hl
    simp only [Term.eval, Option.bind_eq_bind] at hl2
    simp only [Term.eval, Option.bind_eq_bind] at ht
    rw [ht] at hl2
    simp only [harr, Option.bind_some] at hl2
    by_cases hlt : cB.slots.size < 2147483648
    · exact hlt
    · simp [hlt] at hl2
  have hN2 : cB.slots.size = N := by
    have h1 : Int32.ofNat cB.slots.size = Int32.ofNat N := r5
    have h2 := congrArg Int32.toInt h1
    rw [Int32.toInt_ofNat_small hsz, Int32.toInt_ofNat_small hN] at h2
    omega
  obtain ⟨u1, u2, u3, u4, w1, w2⟩ := hK.1 0 (by decide)
  obtain ⟨v1, v2, v3, v4, x1, x2⟩ := hK.1 1 (by decide)
  have w1' : s.fieldFound? "java/lang/String" "value" "[B" = some (u1, u2, u3, u4) := w1
  have x1' : s.fieldFound? "java/lang/String" "coder" "B" = some (v1, v2, v3, v4) := x1
  cases w1'.symm.trans d1
  cases x1'.symm.trans e1
  have hc : c = D.1 4 := by
    have := hK.2.1
    exact Option.some.inj (q2.symm.trans this)
  exact ⟨a, p, q1, ⟨cA, q3, q5, e4, by rw [q6, hc], by rw [← w2]; exact d5, by rw [← x2]; exact e5⟩, cB, g1, g3, r2, r3, hN2, r6⟩

/-- an int out of what a place holds -/
def sI : Option Value → Int32
  | some (.int x) => x
  | _ => 0
/-- the bytes at a place -/
def sF (s : State) (p k : Nat) : Int32 := sI ((s.heap[p]?).bind (fun c => c.slots[k]?))
theorem sSt.f {s : State} {D : va_G} {a p N : Nat} {g : List Int32} (h : sSt s D a p N g) {j : Nat} (hj : j < N) : sF s p j = g.getD j 0 := by
  obtain ⟨-, c, h1, -, -, -, -, h6⟩ := h
  unfold sF
  rw [h1, Option.bind_some, h6 j hj]
  rfl
theorem sSt.xo {l : Launch} {s : State} {D : va_G} {ad : Nat → Nat} {a p N : Nat} {g : List Int32} (h : sSt s D a p N g) : xat (l, s, D, ad) a (.inl (4, [.ref p, .int 0])) s.heap := by
  obtain ⟨⟨c, h1, h2, h3, h4, h5, h6⟩, -⟩ := h
  have hl : a < s.heap.size := (Array.getElem?_eq_some_iff.mp h1).1
  refine ⟨c, h1, h2, h3, fun z => by have z' : s.heap.size ≤ a := z; omega, ("java/lang/String", xT4, 2), rfl, h4, rfl, fun k v hv => ?_⟩
  match k, hv with
  | 0, hv => cases hv; exact h5
  | 1, hv => cases hv; exact h6
  | k + 2, hv => cases hv
theorem sSt.xa {l : Launch} {s : State} {D : va_G} {ad : Nat → Nat} {a p N : Nat} {g : List Int32} (h : sSt s D a p N g) : xat (l, s, D, ad) p (.inr (1, N, fun k => .int (sF s p k))) s.heap := by
  have hf := fun j hj => h.f (j := j) hj
  obtain ⟨-, c, h1, h2, h3, h4, h5, h6⟩ := h
  have hl : p < s.heap.size := (Array.getElem?_eq_some_iff.mp h1).1
  obtain ⟨-, k, hk, comp, hkind⟩ := h3
  refine ⟨c, h1, h2, h4, fun z => by have z' : s.heap.size ≤ p := z; omega, ⟨k, comp, hk, hkind, fun C hC => (by cases hC), fun z => by have z' : s.heap.size ≤ p := z; omega⟩, h5, fun j hj => ?_, fun z => by have z' : s.heap.size ≤ p := z; omega⟩
  show c.slots[j]? = some (.int (sF s p j))
  rw [hf j hj]
  exact h6 j hj
theorem s_xb {l : Launch} {s : State} {D : va_G} {ad : Nat → Nat} {b L : Nat} {xs : Nat → Int32} (h : va_X b L xs s s.heap) : xat (l, s, D, ad) b (.inr (0, L, fun k => .int (xs k))) s.heap := by
  obtain ⟨c, h1, ⟨h0, k, hk, comp, hkind⟩, h3, h4, h5⟩ := h
  have hl : b < s.heap.size := (Array.getElem?_eq_some_iff.mp h1).1
  have h2 : c.vm.isStatics = false := by
    cases hv : c.vm with
    | statics q => exact absurd hv (h0 q)
    | _ => rfl
  exact ⟨c, h1, h2, h3, fun z => by have z' : s.heap.size ≤ b := z; omega, ⟨k, comp, hk, hkind, fun C hC => (by cases hC), fun z => by have z' : s.heap.size ≤ b := z; omega⟩, h4, h5, fun z => by have z' : s.heap.size ≤ b := z; omega⟩
theorem s_put {E : xE} {M : xM} {H : Heap} {a : Nat} {z : xC} (h : xrep E M H) (hx : xat E a z H) : xrep E (xput M a z) H := by
  refine ⟨h.1, h.2.1, fun q y hy => ?_⟩
  by_cases e : q = a
  · subst e
    rw [xput_same] at hy
    cases hy
    exact hx
  · rw [xput_ne e] at hy
    exact h.2.2 q y hy
def sO (s : State) (q k : Nat) : Value := ((s.heap[q]?).bind (fun c => c.slots[k]?)).getD .null
def sN (s : State) (q : Nat) : Nat := ((s.heap[q]?).map (fun c => c.slots.size)).getD 0
/-- the memory at the start: the script, the String constants and their bytes -/
def sM (s : State) (D : va_G) (b L : Nat) (xs : Nat → Int32) (as ps : List Nat) : xM := fun q =>
  if q = b then some (.inr (0, L, fun k => .int (xs k))) else if q ∈ as then some (.inl (4, [sO s q (D.2 4 0), .int 0])) else if q ∈ ps then some (.inr (1, sN s q, fun k => .int (sF s q k))) else none
theorem sSt.o {s : State} {D : va_G} {a p N : Nat} {g : List Int32} (h : sSt s D a p N g) : sO s a (D.2 4 0) = .ref p := by
  obtain ⟨⟨c, h1, h2, h3, h4, h5, h6⟩, -⟩ := h
  unfold sO
  rw [h1, Option.bind_some, h5]
  rfl
theorem sSt.n {s : State} {D : va_G} {a p N : Nat} {g : List Int32} (h : sSt s D a p N g) : sN s p = N := by
  obtain ⟨-, c, h1, h2, h3, h4, h5, h6⟩ := h
  unfold sN
  rw [h1, Option.map_some, h5]
  rfl
theorem s_rep {l : Launch} {s : State} {D : va_G} {ad : Nat → Nat} {b L : Nat} {xs : Nat → Int32} {as ps : List Nat} (hb : va_X b L xs s s.heap) (ha : ∀ q ∈ as, ∃ p N g, sSt s D q p N g) (hp : ∀ q ∈ ps, ∃ a N g, sSt s D a q N g) : xrep (l, s, D, ad) (sM s D b L xs as ps) s.heap := by
  refine ⟨Nat.le_refl _, fun _ _ => rfl, fun q z hz => ?_⟩
  unfold sM at hz
  split at hz
  · next e =>
    cases hz
    rw [e]
    exact s_xb hb
  · split at hz
    · next e =>
      obtain ⟨p, N, g, h⟩ := ha q e
      rw [h.o] at hz
      cases hz
      exact h.xo
    · split at hz
      · next e =>
        obtain ⟨a, N, g, h⟩ := hp q e
        rw [h.n] at hz
        cases hz
        exact h.xa
      · cases hz
theorem s_ab {s : State} {D : va_G} {b L : Nat} {xs : Nat → Int32} {a p N : Nat} {g : List Int32} (hK : ClassAt s "java/lang/String" (D.1 4)) (hb : va_X b L xs s s.heap) (h : sSt s D a p N g) : a ≠ b ∧ p ≠ b := by
  obtain ⟨c, h1, ⟨-, k, hk, comp, hkind⟩, -⟩ := hb
  obtain ⟨⟨c1, a1, -, -, a4, -⟩, c2, b1, -, ⟨-, k2, hk2, comp2, hkind2⟩, -⟩ := h
  obtain ⟨-, k3, hk3, hkind3⟩ := hK
  refine ⟨fun e => ?_, fun e => ?_⟩
  · subst e
    cases h1.symm.trans a1
    rw [a4] at hk
    cases hk.symm.trans hk3
    rw [hkind] at hkind3
    cases hkind3
  · subst e
    cases h1.symm.trans b1
    cases hk.symm.trans hk2
    rw [hkind] at hkind2
    cases hkind2
theorem s_ap {s : State} {D : va_G} {a p N a' p' N' : Nat} {g g' : List Int32} (hK : ClassAt s "java/lang/String" (D.1 4)) (h : sSt s D a p N g) (h' : sSt s D a' p' N' g') : p ≠ a' := by
  obtain ⟨-, c2, b1, -, ⟨-, k2, hk2, comp2, hkind2⟩, -⟩ := h
  obtain ⟨⟨c1, a1, -, -, a4, -⟩, -⟩ := h'
  obtain ⟨-, k3, hk3, hkind3⟩ := hK
  intro e
  subst e
  cases a1.symm.trans b1
  rw [a4] at hk2
  cases hk2.symm.trans hk3
  rw [hkind2] at hkind3
  cases hkind3
theorem sSt.lt {s : State} {D : va_G} {a p N : Nat} {g : List Int32} (h : sSt s D a p N g) : a < s.heap.size ∧ p < s.heap.size := by
  obtain ⟨⟨c1, a1, -⟩, c2, b1, -⟩ := h
  exact ⟨(Array.getElem?_eq_some_iff.mp a1).1, (Array.getElem?_eq_some_iff.mp b1).1⟩
theorem s_js {s : State} {D : va_G} {b L : Nat} {xs : Nat → Int32} {as ps : List Nat} {a p N : Nat} {g : List Int32} (hK : ClassAt s "java/lang/String" (D.1 4)) (hb : va_X b L xs s s.heap) (ha : ∀ q ∈ as, ∃ p N g, sSt s D q p N g) (h : sSt s D a p N g) (h1 : a ∈ as) (h2 : p ∈ ps) (hN : N ≤ 64) (hg : ∀ k, k < N → rCh (g.getD k 0)) : jS (sM s D b L xs as ps) a p N (sF s p) := by
  obtain ⟨n1, n2⟩ := s_ab hK hb h
  refine ⟨?_, ?_, hN, fun k hk => by rw [h.f hk]; exact hg k hk⟩
  · unfold sM
    rw [if_neg n1, if_pos h1, h.o]
  · unfold sM
    have n3 : p ∉ as := fun hq => by
      obtain ⟨p', N', g', h'⟩ := ha p hq
      exact s_ap hK h h' rfl
    rw [if_neg n2, if_neg n3, if_pos h2, h.n]
theorem s_ix {f : Nat → Int32} (h0 : f 0 = 58) (h1 : f 1 = 64) (h2 : f 2 = 61) (h3 : f 3 = 126) (h4 : f 4 = 42) (x : Int32) : (jIx f x 5 0).isSome = rSign x := by
  simp only [jIx, rSign, h0, h1, h2, h3, h4]
  by_cases c1 : x = 58
  · subst c1; rfl
  · by_cases c2 : x = 64
    · subst c2; rfl
    · by_cases c3 : x = 61
      · subst c3; rfl
      · by_cases c4 : x = 126
        · subst c4; rfl
        · by_cases c5 : x = 42
          · subst c5; rfl
          · simp [c1, c2, c3, c4, c5, Ne.symm c1, Ne.symm c2, Ne.symm c3, Ne.symm c4, Ne.symm c5]
theorem s_free {s s' : State} {J : List Loc} {k n : Nat} (h : s.sameButNew s' J k n) (hJ : ∀ x ∈ J, s.heap.size ≤ x.base) : s.sameButNew s' [] k n := by
  obtain ⟨h1, h2, h3, h4, h5, h6⟩ := h
  refine ⟨h1, h2, h3, h4, h5, fun a c hc => ?_⟩
  obtain ⟨c', g1, g2, g3, g4⟩ := h6 a c hc
  refine ⟨c', g1, g2, g3, fun i _ => g4 i (fun hm => ?_)⟩
  have := hJ _ hm
  have hl := (Array.getElem?_eq_some_iff.mp hc).1
  exact absurd hl (Nat.not_lt.mpr this)
