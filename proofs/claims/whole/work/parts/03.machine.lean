/-! THE MACHINE IN SHORT: a judgement XZ that says only: method number, place, locals, stack, memory, room left. A step of it is a function (xstep); that the machine does it is proved once. -/
/-- a cell: an object (number of its class, its fields), or an array (number of its element type, length, contents) -/
abbrev xC : Type := (Nat × List Value) ⊕ (Nat × Nat × (Nat → Value))
abbrev xM : Type := Nat → Option xC
/-- launch, the law's start, the numbers of the classes and slots, the places of the String constants -/
abbrev xE : Type := Launch × State × va_G × (Nat → Nat)
def xput (M : xM) (a : Nat) (c : xC) : xM := fun q => if q = a then some c else M q
theorem xput_same (M : xM) (a : Nat) (c : xC) : xput M a c a = some c := by simp [xput]
theorem xput_ne {M : xM} {a b : Nat} {c : xC} (h : b ≠ a) : xput M a c b = M b := by simp [xput, h]
/-- the class of an array at a place a, of element type t -/
def xarc (E : xE) (a t : Nat) (cls : ClassId) : Prop := ∃ (k : Class) (comp : ClassId), E.2.1.vm.classes[cls]? = some k ∧ k.kind = .array comp (xaty t) ∧ (∀ C, xaty t = .object C → E.2.1.vm.findClass C = some comp) ∧ (E.2.1.heap.size ≤ a → E.2.1.vm.findClass ("[" ++ (xaty t).toString) = some cls)
/-- what stands at a place -/
def xat (E : xE) (a : Nat) (z : xC) (H : Heap) : Prop := ∃ cell : Cell, H[a]? = some cell ∧ cell.vm.isStatics = false ∧ cell.vm ≠ .unknown ∧ (E.2.1.heap.size ≤ a → cell.vm = .none) ∧
  match z with
  | .inl o => ∃ q : vw_C, xcl[o.1]? = some q ∧ cell.cls = E.2.2.1.1 o.1 ∧ o.2.length = q.2.2 ∧ ∀ (k : Nat) (v : Value), o.2[k]? = some v → cell.slots[E.2.2.1.2 o.1 k]? = some v
  | .inr r => xarc E a r.1 cell.cls ∧ cell.slots.size = r.2.1 ∧ (∀ j : Nat, j < r.2.1 → cell.slots[j]? = some (r.2.2 j)) ∧ (E.2.1.heap.size ≤ a → cell = arrV cell.cls r.2.1 r.2.2)
def xrep (E : xE) (M : xM) (H : Heap) : Prop := E.2.1.heap.size ≤ H.size ∧ (∀ q : Nat, q < E.2.1.heap.size → H[q]? = E.2.1.heap[q]?) ∧ ∀ (a : Nat) (z : xC), M a = some z → xat E a z H
theorem xat.kept {E : xE} {a : Nat} {z : xC} {H H1 : Heap} (h : xat E a z H) (hq : H1[a]? = H[a]?) : xat E a z H1 := by
  obtain ⟨cell, h1, h2⟩ := h
  exact ⟨cell, by rw [hq]; exact h1, h2⟩
theorem xat.lt {E : xE} {a : Nat} {z : xC} {H : Heap} (h : xat E a z H) : a < H.size := by
  obtain ⟨cell, h1, -⟩ := h
  exact (Array.getElem?_eq_some_iff.mp h1).1
theorem xrep.put {E : xE} {M : xM} {H H1 : Heap} {a : Nat} {z : xC} (h : xrep E M H) (ha : E.2.1.heap.size ≤ a) (hz : H1.size = H.size) (hq : ∀ q : Nat, q ≠ a → H1[q]? = H[q]?) (hx : xat E a z H1) : xrep E (xput M a z) H1 := by
  refine ⟨by rw [hz]; exact h.1, fun q h1 => ?_, fun b y hb => ?_⟩
  · rw [hq q (by omega)]
    exact h.2.1 q h1
  · by_cases e : b = a
    · subst e
      rw [xput_same] at hb
      cases hb
      exact hx
    · rw [xput_ne e] at hb
      exact (h.2.2 b y hb).kept (hq b e)
theorem xrep.new {E : xE} {M : xM} {H H1 : Heap} {z : xC} (h : xrep E M H) (hz : H1.size = H.size + 1) (hq : ∀ q : Nat, q < H.size → H1[q]? = H[q]?) (hx : xat E H.size z H1) : xrep E (xput M H.size z) H1 := by
  have h0 := h.1
  refine ⟨by omega, fun q h1 => ?_, fun b y hb => ?_⟩
  · rw [hq q (by omega)]
    exact h.2.1 q h1
  · by_cases e : b = H.size
    · subst e
      rw [xput_same] at hb
      cases hb
      exact hx
    · rw [xput_ne e] at hb
      have h3 := h.2.2 b y hb
      exact h3.kept (hq b h3.lt)
/-- locals: a place that is 'none' is not known -/
def xlv (L : List (Option Value)) : List (Nat × Value) := L.zipIdx.filterMap (fun q => q.1.map (fun v => (q.2, v)))
theorem xlv_mem {L : List (Option Value)} {j : Nat} {w : Value} : (j, w) ∈ xlv L ↔ L[j]? = some (some w) := by
  unfold xlv
  rw [List.mem_filterMap]
  constructor
  · rintro ⟨⟨o, i⟩, h1, h2⟩
    rw [List.mem_zipIdx_iff_getElem?] at h1
    cases o with
    | none => simp at h2
    | some v =>
      simp at h2
      obtain ⟨rfl, rfl⟩ := h2
      exact h1
  · intro h
    exact ⟨(some w, j), List.mem_zipIdx_iff_getElem?.mpr h, rfl⟩
def xlr (ls : Array Slot) (L : List (Option Value)) : Prop := lv_has ls L.length (xlv L) ∧ ∀ (j : Nat) (w : Value), L[j]? = some (some w) → w.category = 1
theorem xlr.at {ls : Array Slot} {L : List (Option Value)} {j : Nat} {w : Value} (h : xlr ls L) (hj : L[j]? = some (some w)) : ls[j]? = some (.val w) := h.1.2.2 (j, w) (xlv_mem.mpr hj)
theorem xlr.store {ls : Array Slot} {L : List (Option Value)} {j : Nat} {v : Value} (h : xlr ls L) (hj : j < L.length) (hc : v.category = 1) : ∃ ls', storeLocals ls j v = some ls' ∧ xlr ls' (L.set j (some v)) := by
  obtain ⟨ls', e, h'⟩ := lv_store1 (v := v) h.1 hj hc
  refine ⟨ls', e, ⟨by rw [List.length_set]; exact h'.1, h'.2.1, fun q hq => ?_⟩, fun i w hw => ?_⟩
  · obtain ⟨i, w⟩ := q
    rw [xlv_mem, List.getElem?_set] at hq
    by_cases e1 : j = i
    · subst e1
      rw [if_pos rfl, if_pos hj] at hq
      cases hq
      exact h'.2.2 (j, v) List.mem_cons_self
    · rw [if_neg e1] at hq
      refine h'.2.2 (i, w) (List.mem_cons_of_mem _ (List.mem_filter.mpr ⟨xlv_mem.mpr hq, ?_⟩))
      have hw := h.2 i w hq
      have e2 : ¬ i = j := fun z => e1 z.symm
      simp [e2, hw]
  · rw [List.getElem?_set] at hw
    by_cases e1 : j = i
    · rw [if_pos e1] at hw
      by_cases e2 : j < L.length
      · rw [if_pos e2] at hw
        cases hw
        exact hc
      · rw [if_neg e2] at hw
        cases hw
    · rw [if_neg e1] at hw
      exact h.2 i w hw
/-- fewer locals known -/
theorem xlr.less {ls : Array Slot} {L L' : List (Option Value)} (h : xlr ls L) (hn : L'.length = L.length) (hs : ∀ (j : Nat) (w : Value), L'[j]? = some (some w) → L[j]? = some (some w)) : xlr ls L' :=
  ⟨⟨by rw [hn]; exact h.1.1, h.1.2.1, fun q hq => h.1.2.2 q (by obtain ⟨i, w⟩ := q; exact xlv_mem.mpr (hs i w (xlv_mem.mp hq)))⟩, fun j w hw => h.2 j w (hs j w hw)⟩
/-- a method by its number: name, code, places of its locals, what it answers, frames and words below it, cells and slots that it may make, number of its class -/
def xy (i : Nat) : MethodName := (xm i).1
def xcode (i : Nat) : ByteArray := (xm i).2.1
def xmax (i : Nat) : Nat := (xm i).2.2.1
def xret (i : Nat) : Option FieldType := (xm i).2.2.2.1
def xfr (i : Nat) : Nat := (xm i).2.2.2.2.1
def xlo (i : Nat) : Nat := (xm i).2.2.2.2.2.1
def xmc (i : Nat) : Nat := (xm i).2.2.2.2.2.2.1
def xms (i : Nat) : Nat := (xm i).2.2.2.2.2.2.2.1
def xcn (i : Nat) : Nat := (xm i).2.2.2.2.2.2.2.2
def xrm (i : Nat) : Room := { frames := xfr i, cells := xmc i, slots := xms i, locals := xlo i }
/-- where the law's own cells begin -/
def xb (E : xE) : Nat := E.2.1.heap.size
def xglob (E : xE) : Prop :=
  (∀ w ∈ lw_tbl, w.before #[] E.2.1 = true) ∧ (∀ (ci : Nat) (q : vw_C), xcl[ci]? = some q → u_Kn E.2.1 q.1 q.2.1 q.2.2 (E.2.2.1.1 ci) (E.2.2.1.2 ci)) ∧
  (∀ q ∈ xstr, vk_R q.1 q.2.1 q.2.2.1 (E.2.2.2 q.2.2.2) E.2.1) ∧ (∀ q ∈ xsta, va_Z q.1 q.2.1 q.2.2.1 (.int q.2.2.2) (fun a => E.2.1.heap.size ≤ a) E.2.1 E.2.1.heap) ∧
  va_Zq "jdk/internal/util/Preconditions" "SIOOBE_FORMATTER" "Ljava/util/function/BiFunction;" (fun a => E.2.1.heap.size ≤ a) E.2.1 E.2.1.heap
def xctx (E : xE) (i : Nat) (p : Program) (s : State) (m : MethodId) (meth : Method) (c : Code) : Prop :=
  p.tables.exec = Jvm.exec ∧ c.code = xcode i ∧ c.maxLocals = xmax i ∧ meth.sig.returnType = xret i ∧ meth.locks = false ∧ s.vm.findClass (xy i).cls = some m.cls ∧ meth.name = (xy i).name ∧ E.2.1.WarmedH s.vm
/-- from here the machine comes to Z, whatever lies below and beside -/
def XZ (E : xE) (i : Nat) (Z : List Frame → Array Value → State → State → Prop) (pc : Nat) (L : List (Option Value)) (st : List Value) (M : xM) (nx cb sb : Nat) : Prop :=
  xglob E → ∀ (p : Program) (e : Env) (s : State) (m : MethodId) (args : Array Value) (below : List Frame) (meth : Method) (c : Code) (H : Heap) (locs : List Loc) (cells slots : Nat) (ls : Array Slot),
    xctx E i p s m meth c → xrep E M H → H.size = nx → xlr ls L → L.length = xmax i → cells + cb ≤ xmc i → slots + sb ≤ xms i → (∀ q ∈ locs, E.2.1.heap.size ≤ q.base) →
    W p E.1 e (xrm i) s m args below meth c H locs cells slots (Z below args s) (F0 m pc ls st)
/-- a method's end: its answer and the memory have Q -/
def xZ (E : xE) (i : Nat) (Q : Option Value → xM → Nat → Prop) : List Frame → Array Value → State → State → Prop := fun below args s =>
  MQ below (fun _ _ o t => ∃ (v : Option Value) (M : xM), o = .returned v ∧ xrep E M t.heap ∧ Q v M t.heap.size) args s (xmc i) (xms i) (fun q => E.2.1.heap.size ≤ q)
def xentry (As : List Value) (n : Nat) : List (Option Value) := As.map some ++ List.replicate (n - As.length) none
/-- a call: method i with these arguments at this memory ends with Q -/
def XC (E : xE) (i : Nat) (As : List Value) (M : xM) (nx : Nat) (Q : Option Value → xM → Nat → Prop) : Prop :=
  XZ E i (xZ E i Q) 0 (xentry As (xmax i)) [] M nx (xmc i) (xms i)
/-- rows of instructions: number, a constant, three numbers, the ways of a switch -/
abbrev xI : Type := Nat × Int32 × Nat × Nat × Nat × List (Int32 × Nat)
def xln (len n : Nat) (r : xI) : Option xI := if len = n then some r else none
theorem xln_spec {len n : Nat} {r r' : xI} (h : xln len n r = some r') : len = n ∧ r = r' := by
  unfold xln at h
  by_cases e : len = n
  · rw [if_pos e] at h
    exact ⟨e, Option.some.inj h⟩
  · rw [if_neg e] at h
    cases h
def xt (pc : Nat) (off : Int) : Nat := ((pc : Int) + off).toNat
/-- only where the target is no place before the code's first -/
def xlt (len n : Nat) (pc : Nat) (off : Int) (r : xI) : Option xI := if len = n ∧ 0 ≤ (pc : Int) + off then some r else none
theorem xlt_spec {len n pc : Nat} {off : Int} {r r' : xI} (h : xlt len n pc off r = some r') : len = n ∧ (pc : Int) + off = ((xt pc off : Nat) : Int) ∧ r = r' := by
  unfold xlt at h
  by_cases e : len = n ∧ 0 ≤ (pc : Int) + off
  · rw [if_pos e] at h
    exact ⟨e.1, by unfold xt; omega, Option.some.inj h⟩
  · rw [if_neg e] at h
    cases h
def xI1 (st : List Value) (P : Int32 → List Value → Prop) : Prop := match st with | .int x :: r => P x r | _ => False
def xI2 (st : List Value) (P : Int32 → Int32 → List Value → Prop) : Prop := match st with | .int y :: .int x :: r => P x y r | _ => False
def xV1 (st : List Value) (P : Value → List Value → Prop) : Prop := match st with | v :: r => v.category = 1 ∧ P v r | _ => False
def xV2 (st : List Value) (P : Value → Value → List Value → Prop) : Prop := match st with | v :: w :: r => v.category = 1 ∧ w.category = 1 ∧ P v w r | _ => False
def xV3 (st : List Value) (P : Value → Value → Value → List Value → Prop) : Prop := match st with | v :: w :: u :: r => v.category = 1 ∧ w.category = 1 ∧ u.category = 1 ∧ P v w u r | _ => False
def xA1 (st : List Value) (P : Nat → List Value → Prop) : Prop := match st with | .ref a :: r => P a r | _ => False
/-- a reference or null -/
def xR1 (st : List Value) (P : Option Nat → List Value → Prop) : Prop := match st with | .ref a :: r => P (some a) r | .null :: r => P none r | _ => False
theorem xI1_spec {st : List Value} {P : Int32 → List Value → Prop} (h : xI1 st P) : ∃ x r, st = .int x :: r ∧ P x r := by
  unfold xI1 at h
  split at h
  · exact ⟨_, _, rfl, h⟩
  · exact h.elim
theorem xI2_spec {st : List Value} {P : Int32 → Int32 → List Value → Prop} (h : xI2 st P) : ∃ x y r, st = .int y :: .int x :: r ∧ P x y r := by
  unfold xI2 at h
  split at h
  · exact ⟨_, _, _, rfl, h⟩
  · exact h.elim
theorem xV1_spec {st : List Value} {P : Value → List Value → Prop} (h : xV1 st P) : ∃ v r, st = v :: r ∧ v.category = 1 ∧ P v r := by
  unfold xV1 at h
  split at h
  · exact ⟨_, _, rfl, h⟩
  · exact h.elim
theorem xV2_spec {st : List Value} {P : Value → Value → List Value → Prop} (h : xV2 st P) : ∃ v w r, st = v :: w :: r ∧ v.category = 1 ∧ w.category = 1 ∧ P v w r := by
  unfold xV2 at h
  split at h
  · exact ⟨_, _, _, rfl, h⟩
  · exact h.elim
theorem xV3_spec {st : List Value} {P : Value → Value → Value → List Value → Prop} (h : xV3 st P) : ∃ v w u r, st = v :: w :: u :: r ∧ v.category = 1 ∧ w.category = 1 ∧ u.category = 1 ∧ P v w u r := by
  unfold xV3 at h
  split at h
  · exact ⟨_, _, _, _, rfl, h⟩
  · exact h.elim
theorem xA1_spec {st : List Value} {P : Nat → List Value → Prop} (h : xA1 st P) : ∃ a r, st = .ref a :: r ∧ P a r := by
  unfold xA1 at h
  split at h
  · exact ⟨_, _, rfl, h⟩
  · exact h.elim
theorem xR1_spec {st : List Value} {P : Option Nat → List Value → Prop} (h : xR1 st P) : (∃ a r, st = .ref a :: r ∧ P (some a) r) ∨ ∃ r, st = .null :: r ∧ P none r := by
  unfold xR1 at h
  split at h
  · exact Or.inl ⟨_, _, rfl, h⟩
  · exact Or.inr ⟨_, rfl, h⟩
  · exact h.elim
def xlocI (L : List (Option Value)) (j : Nat) (P : Int32 → Prop) : Prop := match L[j]? with | some (some (.int x)) => P x | _ => False
def xlocA (L : List (Option Value)) (j : Nat) (P : Value → Prop) : Prop := match L[j]? with | some (some (.ref a)) => P (.ref a) | some (some .null) => P .null | _ => False
theorem xlocI_spec {L : List (Option Value)} {j : Nat} {P : Int32 → Prop} (h : xlocI L j P) : ∃ x, L[j]? = some (some (.int x)) ∧ P x := by
  unfold xlocI at h
  split at h
  · exact ⟨_, by assumption, h⟩
  · exact h.elim
theorem xlocA_spec {L : List (Option Value)} {j : Nat} {P : Value → Prop} (h : xlocA L j P) : (∃ a, L[j]? = some (some (.ref a)) ∧ P (.ref a)) ∨ (L[j]? = some (some .null) ∧ P .null) := by
  unfold xlocA at h
  split at h
  · exact Or.inl ⟨_, by assumption, h⟩
  · exact Or.inr ⟨by assumption, h⟩
  · exact h.elim
/-- an object of a class at a place -/
def xobj (M : xM) (a ci : Nat) (P : List Value → Prop) : Prop := match M a with | some (.inl (c, fs)) => c = ci ∧ P fs | _ => False
def xarr (M : xM) (a : Nat) (P : Nat → Nat → (Nat → Value) → Prop) : Prop := match M a with | some (.inr (t, n, f)) => P t n f | _ => False
theorem xobj_spec {M : xM} {a ci : Nat} {P : List Value → Prop} (h : xobj M a ci P) : ∃ fs, M a = some (.inl (ci, fs)) ∧ P fs := by
  unfold xobj at h
  split at h
  · next c fs e =>
    obtain ⟨rfl, h⟩ := h
    exact ⟨fs, e, h⟩
  · exact h.elim
theorem xarr_spec {M : xM} {a : Nat} {P : Nat → Nat → (Nat → Value) → Prop} (h : xarr M a P) : ∃ t n f, M a = some (.inr (t, n, f)) ∧ P t n f := by
  unfold xarr at h
  split at h
  · next t n f e => exact ⟨t, n, f, e, h⟩
  · exact h.elim
def xget (fs : List Value) (k : Nat) (P : Value → Prop) : Prop := match fs[k]? with | some v => P v | none => False
theorem xget_spec {fs : List Value} {k : Nat} {P : Value → Prop} (h : xget fs k P) : ∃ v, fs[k]? = some v ∧ P v := by
  unfold xget at h
  split at h
  · exact ⟨_, by assumption, h⟩
  · exact h.elim
/-- a reference or null, as it stands -/
def xRv (st : List Value) (P : Value → List Value → Prop) : Prop := match st with | .ref a :: r => P (.ref a) r | .null :: r => P .null r | _ => False
def xVA (st : List Value) (P : Value → Nat → List Value → Prop) : Prop := match st with | v :: .ref a :: r => P v a r | _ => False
def xIA (st : List Value) (P : Int32 → Nat → List Value → Prop) : Prop := match st with | .int j :: .ref a :: r => P j a r | _ => False
def xIIA (st : List Value) (P : Int32 → Int32 → Nat → List Value → Prop) : Prop := match st with | .int x :: .int j :: .ref a :: r => P x j a r | _ => False
def xVIA (st : List Value) (P : Value → Int32 → Nat → List Value → Prop) : Prop := match st with | v :: .int j :: .ref a :: r => P v j a r | _ => False
theorem xRv_spec {st : List Value} {P : Value → List Value → Prop} (h : xRv st P) : (∃ a r, st = .ref a :: r ∧ P (.ref a) r) ∨ ∃ r, st = .null :: r ∧ P .null r := by
  unfold xRv at h
  split at h
  · exact Or.inl ⟨_, _, rfl, h⟩
  · exact Or.inr ⟨_, rfl, h⟩
  · exact h.elim
theorem xVA_spec {st : List Value} {P : Value → Nat → List Value → Prop} (h : xVA st P) : ∃ v a r, st = v :: .ref a :: r ∧ P v a r := by
  unfold xVA at h
  split at h
  · exact ⟨_, _, _, rfl, h⟩
  · exact h.elim
theorem xIA_spec {st : List Value} {P : Int32 → Nat → List Value → Prop} (h : xIA st P) : ∃ j a r, st = .int j :: .ref a :: r ∧ P j a r := by
  unfold xIA at h
  split at h
  · exact ⟨_, _, _, rfl, h⟩
  · exact h.elim
theorem xIIA_spec {st : List Value} {P : Int32 → Int32 → Nat → List Value → Prop} (h : xIIA st P) : ∃ x j a r, st = .int x :: .int j :: .ref a :: r ∧ P x j a r := by
  unfold xIIA at h
  split at h
  · exact ⟨_, _, _, _, rfl, h⟩
  · exact h.elim
theorem xVIA_spec {st : List Value} {P : Value → Int32 → Nat → List Value → Prop} (h : xVIA st P) : ∃ v j a r, st = v :: .int j :: .ref a :: r ∧ P v j a r := by
  unfold xVIA at h
  split at h
  · exact ⟨_, _, _, _, rfl, h⟩
  · exact h.elim
/-- the way of a switch -/
def xsw (x : Int32) (d : Nat) (P : Nat → Prop) : List (Int32 × Nat) → Prop
  | [] => P d
  | q :: r => if x = q.1 then P q.2 else xsw x d P r
/-- which values a field of a type takes (0 int, 1 boolean, 2 byte, 3 char, 4 a reference) -/
def xfit (tc : Nat) (v : Value) : Prop := match tc, v with
  | 0, .int _ => True
  | 1, .int x => x = 0 ∨ x = 1
  | 2, .int x => x.toInt8.toInt32 = x
  | 3, .int x => narrow .char (.int x) = .int x
  | 4, .ref _ => True
  | 4, .null => True
  | _, _ => False
/-- the receiver and the arguments of a call -/
def xD (st : List Value) (n : Nat) (P : Nat → List Value → List Value → Prop) : Prop := match st.drop n with | .ref b :: r => P b (st.take n).reverse r | _ => False
def xDs (st : List Value) (n : Nat) (P : List Value → List Value → Prop) : Prop := n ≤ st.length ∧ P (st.take n).reverse (st.drop n)
def xcat1 : List Value → Prop
  | [] => True
  | v :: r => v.category = 1 ∧ xcat1 r
theorem xcat1_spec : ∀ {l : List Value}, xcat1 l → ∀ v ∈ l, v.category = 1
  | [], _, v, h => by cases h
  | w :: r, h, v, hv => by
    rcases List.mem_cons.mp hv with rfl | hv
    · exact h.1
    · exact xcat1_spec h.2 v hv
theorem xD_spec {st : List Value} {n : Nat} {P : Nat → List Value → List Value → Prop} (h : xD st n P) : ∃ b As r, st = As.reverse ++ .ref b :: r ∧ As.length = n ∧ P b As r := by
  unfold xD at h
  split at h
  · next b r e =>
    refine ⟨b, _, r, ?_, ?_, h⟩
    · rw [List.reverse_reverse, ← e, List.take_append_drop]
    · have h1 : (st.drop n).length = r.length + 1 := by rw [e]; rfl
      rw [List.length_drop] at h1
      rw [List.length_reverse, List.length_take]
      omega
  · exact h.elim
theorem xDs_spec {st : List Value} {n : Nat} {P : List Value → List Value → Prop} (h : xDs st n P) : ∃ As r, st = As.reverse ++ r ∧ As.length = n ∧ P As r :=
  ⟨_, _, by rw [List.reverse_reverse, List.take_append_drop], by rw [List.length_reverse, List.length_take]; have := h.1; omega, h.2⟩
def xCp (st : List Value) (P : Int32 → Int32 → Nat → Int32 → Nat → List Value → Prop) : Prop := match st with | .int n :: .int dp :: .ref d :: .int sp :: .ref a :: r => P n dp d sp a r | _ => False
theorem xCp_spec {st : List Value} {P : Int32 → Int32 → Nat → Int32 → Nat → List Value → Prop} (h : xCp st P) : ∃ n dp d sp a r, st = .int n :: .int dp :: .ref d :: .int sp :: .ref a :: r ∧ P n dp d sp a r := by
  unfold xCp at h
  split at h
  · exact ⟨_, _, _, _, _, _, rfl, h⟩
  · exact h.elim
/-- what may be put into an array of references -/
def xastok (M : xM) (t : Nat) (v : Value) : Prop := match v with
  | .null => True
  | .ref b => xobj M b (xaci t) (fun _ => True)
  | _ => False
def xnar (t : Nat) (x : Int32) : Int32 := match t with
  | 1 => x.toInt8.toInt32
  | 2 => x &&& 1
  | 3 => x.toUInt32.toUInt16.toUInt32.toInt32
  | _ => x
/-- ONE STEP -/
def xstep (K KX : Nat → List (Option Value) → List Value → xM → Nat → Nat → Nat → Prop) (Rf : Option Value → xM → Nat → Prop) (E : xE) (pc len : Nat) (L : List (Option Value)) (st : List Value) (M : xM) (nx cb sb : Nat) : xI → Prop
  | (0, v, _, _, _, _) => K (pc + len) L (.int v :: st) M nx cb sb
  | (1, _, j, _, _, _) => xlocI L j fun x => K (pc + len) L (.int x :: st) M nx cb sb
  | (2, _, j, _, _, _) => xlocA L j fun v => K (pc + len) L (v :: st) M nx cb sb
  | (3, _, j, _, _, _) => xI1 st fun x r => j < L.length ∧ K (pc + len) (L.set j (some (.int x))) r M nx cb sb
  | (4, _, j, _, _, _) => xRv st fun v r => j < L.length ∧ K (pc + len) (L.set j (some v)) r M nx cb sb
  | (5, v, j, _, _, _) => xlocI L j fun x => K (pc + len) (L.set j (some (.int (x + v)))) st M nx cb sb
  | (6, _, _, _, _, _) => K (pc + 1) L (.null :: st) M nx cb sb
  | (10, _, _, _, _, _) => xI2 st fun x y r => K (pc + 1) L (.int (x + y) :: r) M nx cb sb
  | (11, _, _, _, _, _) => xI2 st fun x y r => K (pc + 1) L (.int (x - y) :: r) M nx cb sb
  | (12, _, _, _, _, _) => xI2 st fun x y r => K (pc + 1) L (.int (x * y) :: r) M nx cb sb
  | (13, _, _, _, _, _) => xI2 st fun x y r => K (pc + 1) L (.int (x &&& y) :: r) M nx cb sb
  | (14, _, _, _, _, _) => xI2 st fun x y r => K (pc + 1) L (.int (x ||| y) :: r) M nx cb sb
  | (15, _, _, _, _, _) => xI2 st fun x y r => K (pc + 1) L (.int (x ^^^ y) :: r) M nx cb sb
  | (16, _, _, _, _, _) => xI2 st fun x y r => K (pc + 1) L (.int (x <<< (y &&& 31)) :: r) M nx cb sb
  | (17, _, _, _, _, _) => xI2 st fun x y r => K (pc + 1) L (.int (x >>> (y &&& 31)) :: r) M nx cb sb
  | (18, _, _, _, _, _) => xI2 st fun x y r => K (pc + 1) L (.int (x.toUInt32 >>> (y.toUInt32 &&& Int32.toUInt32 31)).toInt32 :: r) M nx cb sb
  | (19, _, _, _, _, _) => xI2 st fun x y r => ¬ y = 0 ∧ K (pc + 1) L (.int (x / y) :: r) M nx cb sb
  | (20, _, _, _, _, _) => xI2 st fun x y r => ¬ y = 0 ∧ K (pc + 1) L (.int (x - x / y * y) :: r) M nx cb sb
  | (21, _, _, _, _, _) => xI1 st fun x r => K (pc + 1) L (.int (-x) :: r) M nx cb sb
  | (22, _, _, _, _, _) => xI1 st fun x r => K (pc + 1) L (.int x.toInt8.toInt32 :: r) M nx cb sb
  | (23, _, _, _, _, _) => xI1 st fun x r => K (pc + 1) L (.int x.toInt16.toInt32 :: r) M nx cb sb
  | (24, _, _, _, _, _) => xI1 st fun x r => K (pc + 1) L (.int (x.toUInt32 % 65536).toInt32 :: r) M nx cb sb
  | (25, _, _, _, _, _) => xV1 st fun v r => K (pc + 1) L (v :: v :: r) M nx cb sb
  | (26, _, _, _, _, _) => xV1 st fun _ r => K (pc + 1) L r M nx cb sb
  | (27, _, _, _, _, _) => xV2 st fun v w r => K (pc + 1) L (v :: w :: v :: r) M nx cb sb
  | (28, _, _, _, _, _) => xV3 st fun v w u r => K (pc + 1) L (v :: w :: u :: v :: r) M nx cb sb
  | (29, _, _, _, _, _) => xV2 st fun v w r => K (pc + 1) L (v :: w :: v :: w :: r) M nx cb sb
  | (30, _, a, _, _, _) => xI1 st fun x r => if x = 0 then K a L r M nx cb sb else K (pc + 3) L r M nx cb sb
  | (31, _, a, _, _, _) => xI1 st fun x r => if x = 0 then K (pc + 3) L r M nx cb sb else K a L r M nx cb sb
  | (32, _, a, _, _, _) => xI1 st fun x r => if x < 0 then K a L r M nx cb sb else K (pc + 3) L r M nx cb sb
  | (33, _, a, _, _, _) => xI1 st fun x r => if 0 ≤ x then K a L r M nx cb sb else K (pc + 3) L r M nx cb sb
  | (34, _, a, _, _, _) => xI1 st fun x r => if 0 < x then K a L r M nx cb sb else K (pc + 3) L r M nx cb sb
  | (35, _, a, _, _, _) => xI1 st fun x r => if x ≤ 0 then K a L r M nx cb sb else K (pc + 3) L r M nx cb sb
  | (36, _, a, _, _, _) => xI2 st fun x y r => if x = y then K a L r M nx cb sb else K (pc + 3) L r M nx cb sb
  | (37, _, a, _, _, _) => xI2 st fun x y r => if x = y then K (pc + 3) L r M nx cb sb else K a L r M nx cb sb
  | (38, _, a, _, _, _) => xI2 st fun x y r => if x < y then K a L r M nx cb sb else K (pc + 3) L r M nx cb sb
  | (39, _, a, _, _, _) => xI2 st fun x y r => if y ≤ x then K a L r M nx cb sb else K (pc + 3) L r M nx cb sb
  | (40, _, a, _, _, _) => xI2 st fun x y r => if y < x then K a L r M nx cb sb else K (pc + 3) L r M nx cb sb
  | (41, _, a, _, _, _) => xI2 st fun x y r => if x ≤ y then K a L r M nx cb sb else K (pc + 3) L r M nx cb sb
  | (42, _, a, _, _, _) => xR1 st fun o r => if o = none then K a L r M nx cb sb else K (pc + 3) L r M nx cb sb
  | (43, _, a, _, _, _) => xR1 st fun o r => if o = none then K (pc + 3) L r M nx cb sb else K a L r M nx cb sb
  | (44, _, a, _, _, _) => xR1 st fun y s => xR1 s fun x r => if x = y then K a L r M nx cb sb else K (pc + 3) L r M nx cb sb
  | (45, _, a, _, _, _) => xR1 st fun y s => xR1 s fun x r => if x = y then K (pc + 3) L r M nx cb sb else K a L r M nx cb sb
  | (46, _, a, _, _, _) => K a L st M nx cb sb
  | (47, _, a, _, _, sw) => xI1 st fun x r => xsw x a (fun t => K t L r M nx cb sb) sw
  | (50, _, ci, k, _, _) => xA1 st fun a r => xobj M a ci fun fs => xget fs k fun v => K (pc + 3) L (v :: r) M nx cb sb
  | (51, _, ci, k, tc, _) => xVA st fun v a r => xb E ≤ a ∧ xfit tc v ∧ xobj M a ci fun fs => k < fs.length ∧ K (pc + 3) L r (xput M a (.inl (ci, fs.set k v))) nx cb sb
  | (52, v, _, _, _, _) => K (pc + 3) L (.int v :: st) M nx cb sb
  | (53, _, ci, n, _, _) => 1 ≤ cb ∧ n ≤ sb ∧ K (pc + 3) L (.ref nx :: st) (xput M nx (.inl (ci, xdef ci))) (nx + 1) (cb - 1) (sb - n)
  | (54, _, ti, _, _, _) => xI1 st fun n r => ¬ n < 0 ∧ n.toNatClampNeg ≤ 1000000 ∧ 1 ≤ cb ∧ n.toNatClampNeg ≤ sb ∧ K (pc + 2) L (.ref nx :: r) (xput M nx (.inr (ti, n.toNatClampNeg, fun _ => .int 0))) (nx + 1) (cb - 1) (sb - n.toNatClampNeg)
  | (55, _, ti, _, _, _) => xI1 st fun n r => ¬ n < 0 ∧ n.toNatClampNeg ≤ 1000000 ∧ 1 ≤ cb ∧ n.toNatClampNeg ≤ sb ∧ K (pc + 3) L (.ref nx :: r) (xput M nx (.inr (ti, n.toNatClampNeg, fun _ => .null))) (nx + 1) (cb - 1) (sb - n.toNatClampNeg)
  | (56, _, _, _, _, _) => xA1 st fun a r => xarr M a fun _ n _ => K (pc + 1) L (.int (Int32.ofNat n) :: r) M nx cb sb
  | (57, _, lo, hi, _, _) => xIA st fun j a r => xarr M a fun t n f => (lo ≤ t ∧ t ≤ hi) ∧ ¬ j < 0 ∧ j.toNatClampNeg < n ∧ K (pc + 1) L (f j.toNatClampNeg :: r) M nx cb sb
  | (58, _, lo, hi, _, _) => xIIA st fun x j a r => xb E ≤ a ∧ xarr M a fun t n f => (lo ≤ t ∧ t ≤ hi) ∧ ¬ j < 0 ∧ j.toNatClampNeg < n ∧ K (pc + 1) L r (xput M a (.inr (t, n, updV f j.toNatClampNeg (.int (xnar t x))))) nx cb sb
  | (59, _, _, _, _, _) => xVIA st fun v j a r => xb E ≤ a ∧ xarr M a fun t n f => 4 ≤ t ∧ ¬ j < 0 ∧ j.toNatClampNeg < n ∧ xastok M t v ∧ K (pc + 1) L r (xput M a (.inr (t, n, updV f j.toNatClampNeg v))) nx cb sb
  | (60, _, n, _, _, _) => K (pc + len) L (.ref (E.2.2.2 n) :: st) M nx cb sb
  | (61, _, ci, _, _, _) => xA1 st fun a r => xobj M a ci fun _ => K (pc + 3) L (.int 1 :: r) M nx cb sb
  | (62, _, ci, _, _, _) => xA1 st fun a r => xobj M a ci fun _ => K (pc + 3) L (.ref a :: r) M nx cb sb
  | (63, _, _, _, _, _) => ∀ o : Option Nat, K (pc + 3) L (va_rf o :: st) M nx cb sb
  | (70, _, j, n, ci, _) => xD st n fun b As r => xobj M b ci (fun _ => True) ∧ xcat1 As ∧ r.length ≤ 4 ∧ xmc j ≤ cb ∧ xms j ≤ sb ∧ XC E j (.ref b :: As) M nx (fun v M' nx' => KX (pc + 3) L (v.toList ++ r) M' nx' (cb - xmc j) (sb - xms j))
  | (71, _, j, n, _, _) => xDs st n fun As r => xcat1 As ∧ r.length ≤ 4 ∧ xmc j ≤ cb ∧ xms j ≤ sb ∧ XC E j As M nx (fun v M' nx' => KX (pc + 3) L (v.toList ++ r) M' nx' (cb - xmc j) (sb - xms j))
  | (72, _, j, n, _, _) => xD st n fun b As r => xcat1 As ∧ r.length ≤ 4 ∧ xmc j ≤ cb ∧ xms j ≤ sb ∧ XC E j (.ref b :: As) M nx (fun v M' nx' => KX (pc + 3) L (v.toList ++ r) M' nx' (cb - xmc j) (sb - xms j))
  | (75, _, j, n, ci, _) => xD st n fun b As r => xobj M b ci (fun _ => True) ∧ xcat1 As ∧ r.length ≤ 4 ∧ xmc j ≤ cb ∧ xms j ≤ sb ∧ XC E j (.ref b :: As) M nx (fun v M' nx' => KX (pc + 3) L (v.toList ++ r) M' nx' (cb - xmc j) (sb - xms j))
  | (73, _, _, _, _, _) => xA1 st fun _ r => r.length ≤ 4 ∧ K (pc + 3) L r M nx cb sb
  | (76, _, j, n, ci, _) => xD st n fun b As r => xobj M b ci (fun _ => True) ∧ xcat1 As ∧ r.length ≤ 4 ∧ xmc j ≤ cb ∧ xms j ≤ sb ∧ XC E j (.ref b :: As) M nx (fun v M' nx' => KX (pc + 3) L (v.toList ++ r) M' nx' (cb - xmc j) (sb - xms j))
  | (77, _, _, _, _, _) => xI2 st fun x y r => r.length ≤ 4 ∧ K (pc + 3) L (.int (if x < y then y else x) :: r) M nx cb sb
  | (78, _, _, _, _, _) => xI2 st fun x y r => r.length ≤ 4 ∧ K (pc + 3) L (.int (if y < x then y else x) :: r) M nx cb sb
  | (79, _, _, _, _, _) => xCp st fun n dp d sp a r => r.length ≤ 4 ∧ xb E ≤ d ∧ (¬ sp < 0 ∧ ¬ dp < 0 ∧ ¬ n < 0) ∧ xarr M a fun t0 n0 f => xarr M d fun t1 n1 g => t0 = 1 ∧ t1 = 1 ∧ sp.toNatClampNeg + n.toNatClampNeg ≤ n0 ∧ dp.toNatClampNeg + n.toNatClampNeg ≤ n1 ∧ (∀ q : Nat, q < n.toNatClampNeg → fits .byte (f (sp.toNatClampNeg + q)) = true) ∧ K (pc + 3) L r (xput M d (.inr (1, n1, va_cpy f g sp.toNatClampNeg dp.toNatClampNeg n.toNatClampNeg))) nx cb sb
  | (80, _, _, _, _, _) => xA1 st fun a r => r.length ≤ 4 ∧ xb E ≤ a ∧ xarr M a fun t n f => t = 1 ∧ 1 ≤ cb ∧ n ≤ sb ∧ (∀ q : Nat, q < n → fits .byte (f q) = true) ∧ K (pc + 3) L (.ref nx :: r) (xput M nx (.inr (1, n, f))) (nx + 1) (cb - 1) (sb - n)
  | (81, _, _, _, _, _) => xA1 st fun a r => xb E ≤ a ∧ xarr M a fun t _ _ => t = 1 ∧ K (pc + 3) L (.ref a :: r) M nx cb sb
  | (90, _, tc, _, _, _) => xI1 st fun x r => r = [] ∧ xfit tc (.int x) ∧ Rf (some (.int x)) M nx
  | (91, _, _, _, _, _) => xRv st fun v r => r = [] ∧ Rf (some v) M nx
  | (92, _, _, _, _, _) => st = [] ∧ Rf none M nx
  | _ => False
/-- the ways of a table switch -/
def xts (pc : Nat) (lo : Int) (offs : List Int) : List (Int32 × Nat) := offs.zipIdx.map (fun q => (Int32.ofInt (lo + (q.2 : Int)), xt pc q.1))
theorem xts_mem {pc : Nat} {lo : Int} {offs : List Int} {q : Int32 × Nat} (h : q ∈ xts pc lo offs) : ∃ (k : Nat) (off : Int), offs[k]? = some off ∧ q = (Int32.ofInt (lo + (k : Int)), xt pc off) := by
  obtain ⟨⟨off, k⟩, h1, rfl⟩ := List.mem_map.mp h
  exact ⟨k, off, List.mem_zipIdx_iff_getElem?.mp h1, rfl⟩
theorem xts_in {pc : Nat} {lo : Int} {offs : List Int} {k : Nat} {off : Int} (h : offs[k]? = some off) : (Int32.ofInt (lo + (k : Int)), xt pc off) ∈ xts pc lo offs :=
  List.mem_map.mpr ⟨(off, k), List.mem_zipIdx_iff_getElem?.mpr h, rfl⟩
def xtsOk (pc : Nat) (d lo hi : Int) (offs : Array Int) : Bool := decide (-2147483648 ≤ lo) && decide (hi ≤ 2147483647) && decide (hi - lo + 1 = (offs.size : Int)) && decide (0 ≤ (pc : Int) + d) && offs.toList.all (fun o => decide (0 ≤ (pc : Int) + o))
theorem xtsOk_spec {pc : Nat} {d lo hi : Int} {offs : Array Int} (h : xtsOk pc d lo hi offs = true) : -2147483648 ≤ lo ∧ hi ≤ 2147483647 ∧ hi - lo + 1 = (offs.size : Int) ∧ (pc : Int) + d = ((xt pc d : Nat) : Int) ∧ ∀ (k : Nat) (off : Int), offs[k]? = some off → (pc : Int) + off = ((xt pc off : Nat) : Int) := by
  unfold xtsOk at h
  simp only [Bool.and_eq_true, decide_eq_true_eq, List.all_eq_true] at h
  obtain ⟨⟨⟨⟨h1, h2⟩, h3⟩, h4⟩, h5⟩ := h
  refine ⟨h1, h2, h3, by unfold xt; omega, fun k off hk => ?_⟩
  have h6 := h5 off (List.mem_of_getElem? (by rw [Array.getElem?_toList]; exact hk))
  unfold xt
  omega
/-- a type's number where it is an int's kind -/
def xtc : Option FieldType → Option Nat
  | some .int => some 0
  | some .boolean => some 1
  | some .byte => some 2
  | some .char => some 3
  | _ => none
def xretA : Option FieldType → Bool
  | some (.object _) => true
  | some (.array _) => true
  | _ => false
