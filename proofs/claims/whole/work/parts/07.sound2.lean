section XS
variable {E : xE} {i : Nat} {Z : List Frame → Array Value → State → State → Prop} {pc : Nat} {L : List (Option Value)} {st : List Value} {M : xM} {nx cb sb : Nat}
theorem xlk_spec {cn idx op : Nat} {row : xI} (h : xlk cn idx op = some row) : xlok (cn, idx, op, row) := by
  unfold xlk at h
  cases hf : xlinks.find? (fun q => q.1 == cn && q.2.1 == idx && q.2.2.1 == op) with
  | none => rw [hf] at h; cases h
  | some q =>
    rw [hf] at h
    have h1 := List.find?_some hf
    have h2 := xlinks_ok q (List.mem_of_find?_eq_some hf)
    obtain ⟨a, b, d, r⟩ := q
    simp only [Bool.and_eq_true, beq_iff_eq] at h1
    obtain ⟨⟨rfl, rfl⟩, rfl⟩ := h1
    cases h
    exact h2
theorem xlays {E : xE} (g : xglob E) {ci k : Nat} {cd : vw_C} (f1 : xcl[ci]? = some cd) (f2 : k < cd.2.2) {s : State} (hW : E.2.1.WarmedH s.vm) (args : Array Value) :
    (Cond.lays cd.1 (cd.2.1 k).1 (cd.2.1 k).2.1 (cd.2.1 k).2.2.1).before args s = true ∨ (Cond.laysFinal cd.1 (cd.2.1 k).1 (cd.2.1 k).2.1 (cd.2.1 k).2.2.1).before args s = true := by
  have h := xword g (xcl_ws f1 _ (u_in_lay f2)) (by unfold u_lay; split <;> rfl) hW args
  unfold u_lay at h
  split at h
  · exact Or.inr h
  · exact Or.inl h
theorem xapart {E : xE} (g : xglob E) {ci : Nat} {cd : vw_C} (f1 : xcl[ci]? = some cd) {x y : Nat} (hx : x < cd.2.2) (hy : y < cd.2.2) (hne : x ≠ y) : E.2.2.1.2 ci x ≠ E.2.2.1.2 ci y := by
  obtain ⟨hS, -⟩ := g.2.1 _ _ f1
  obtain ⟨_, _, _, fa, hia, ea⟩ := hS x hx
  obtain ⟨_, _, _, fb, hib, eb⟩ := hS y hy
  obtain ⟨tx, htx⟩ := xcl_ty f1 hx
  obtain ⟨ty, hty⟩ := xcl_ty f1 hy
  rw [← ea, ← eb]
  refine u_apart (xlays g f1 hx (State.WarmedH.refl _) #[]) (xlays g f1 hy (State.WarmedH.refl _) #[]) hia hib ?_
  rw [(State.fieldFound?_type hia htx).1, (State.fieldFound?_type hib hty).1]
  exact xcl_nm f1 hx hy hne
theorem xfit_spec {ty : FieldType} {v : Value} (h : xfit (xtcT ty) v) : narrow ty v = v ∧ fits ty v = true := by
  cases ty <;> cases v <;> first | (exact False.elim h) | (exact ⟨rfl, rfl⟩) | skip
  · next x =>
    have h : x.toInt8.toInt32 = x := h
    refine ⟨by show Value.int _ = _; rw [h], ?_⟩
    have h2 := fits_narrow_byte x
    rw [show narrow .byte (.int x) = .int x by show Value.int _ = _; rw [h]] at h2
    exact h2
  · next x =>
    have h : narrow .char (.int x) = .int x := h
    refine ⟨h, ?_⟩
    have h2 := fits_narrow_char x
    rw [h] at h2
    exact h2
  · next x =>
    rcases (show x = 0 ∨ x = 1 from h) with rfl | rfl
    · exact ⟨rfl, rfl⟩
    · exact ⟨rfl, rfl⟩
theorem xat.setF {E : xE} (g : xglob E) {a ci k : Nat} {fs : List Value} {v : Value} {cell : Cell} {cd : vw_C} {H H' : Heap} (h : xat E a (.inl (ci, fs)) H) (f1 : xcl[ci]? = some cd) (hc : H[a]? = some cell) (h1 : H'[a]? = some (cell.setSlot (E.2.2.1.2 ci k) v)) (hk : k < cd.2.2) (hl : k < fs.length) (hlt : E.2.2.1.2 ci k < cell.slots.size) : xat E a (.inl (ci, fs.set k v)) H' := by
  obtain ⟨cell', c1, c2, c3, c4, cd', c5, c6, c7, c8⟩ := h
  cases hc.symm.trans c1
  cases f1.symm.trans c5
  refine ⟨cell.setSlot (E.2.2.1.2 ci k) v, h1, c2, c3, c4, cd, f1, c6, by rw [List.length_set]; exact c7, fun j w hw => ?_⟩
  rw [List.getElem?_set] at hw
  by_cases e : k = j
  · subst e
    rw [if_pos rfl, if_pos hl] at hw
    cases hw
    exact Cell.slots_setSlot_self v hlt
  · rw [if_neg e] at hw
    have hj : j < cd.2.2 := by
      have h9 := (List.getElem?_eq_some_iff.mp hw).1
      dsimp only at c7
      omega
    rw [slot_ne cell v (xapart g f1 hk hj e)]
    exact c8 j w hw
section XL
variable {K KX : Nat → List (Option Value) → List Value → xM → Nat → Nat → Nat → Prop} {Rf : Option Value → xM → Nat → Prop} {idx : Nat} {row : xI}
theorem xs_getfield (hK : ∀ pc L st M nx cb sb, K pc L st M nx cb sb → XZ E i Z pc L st M nx cb sb) (hd : decode (xcode i) pc = .ok (.getfield idx, 3)) (hr : xlk (xcn i) idx 50 = some row) (h : xstep K KX Rf E pc 3 L st M nx cb sb row) : XZ E i Z pc L st M nx cb sb := by
  obtain ⟨ci, k, rfl, cd, ref, f1, f2, f3, f4⟩ := xlk_spec hr
  obtain ⟨a, r, rfl, h⟩ := xA1_spec h
  obtain ⟨fs, g1, h⟩ := xobj_spec h
  obtain ⟨v, g2, h⟩ := xget_spec h
  have kk := hK _ _ _ _ _ _ _ h
  intro g p e s m args below meth c H locs cells slots ls C hM hn hl hL hc hs hq
  have hW := C.2.2.2.2.2.2.2
  obtain ⟨cell, c1, c2, c3, c4, cd', c5, c6, c7, c8⟩ := hM.2.2 a _ g1
  obtain ⟨hS, hfc, kC, hkC, hkind⟩ := u_Kn_moved hW.alike (g.2.1 _ _ f1)
  obtain ⟨cf, kf, fi, f, hi, hsl⟩ := hS k f2
  have hst := (u_facts hfc hkC (xlays g f1 f2 hW args) hi).1
  have hi2 : s.fieldFound? ref (cd.2.1 k).2.1 (cd.2.1 k).2.2.1 = some (cf, kf, fi, f) := by
    rcases f3 with rfl | f3
    · exact hi
    · exact u_same (xword g f3 rfl hW args) _ hi
  have hv : cell.slots[f.slot]? = some v := by rw [hsl]; exact c8 k v g2
  have hown := C.2.2.2.2.2.1
  rw [xm_own] at hown
  have k9 := kk g p e s m args below meth c H locs cells slots ls C hM hn hl hL hc hs hq
  rcases f4 with f4 | ⟨host, f4⟩
  · exact W.getf C.1 C.2.1 hown (xword g f4 rfl hW args) hi2 hst c1 c3 hv rfl rfl hd k9
  · exact va_Wgetf C.1 C.2.1 hown (xword g f4 rfl hW args) hi2 hst c1 c3 hv rfl rfl hd k9
theorem xs_put {ci k tc : Nat} {fin : Bool} (hK : ∀ pc L st M nx cb sb, K pc L st M nx cb sb → XZ E i Z pc L st M nx cb sb) (hd : decode (xcode i) pc = .ok (.putfield idx, 3)) (hF : xfld (xown (xcn i)) idx ci k) (hWr : xwr (xown (xcn i)) ci k tc fin) (hin : fin = true → (xy i).name = "<init>") (h : xstep K KX Rf E pc 3 L st M nx cb sb (51, 0, ci, k, tc, [])) : XZ E i Z pc L st M nx cb sb := by
  obtain ⟨cd, ref, f1, f2, f3, f4⟩ := hF
  obtain ⟨cd2, ty, w1, w2, w3, w4, w5⟩ := hWr
  cases f1.symm.trans w1
  subst w5
  obtain ⟨v, a, r, rfl, h0, hfit, h⟩ := xVA_spec h
  obtain ⟨fs, g1, hlen, h⟩ := xobj_spec h
  obtain ⟨n1, n2⟩ := xfit_spec hfit
  have kk := hK _ _ _ _ _ _ _ h
  intro g p e s m args below meth c H locs cells slots ls C hM hn hl hL hc hs hq
  have hW := C.2.2.2.2.2.2.2
  have hA := hM.2.2 a _ g1
  obtain ⟨cell, c1, c2, c3, c4, cd', c5, c6, c7, c8⟩ := hM.2.2 a _ g1
  obtain ⟨hS, hfc, kC, hkC, hkind⟩ := u_Kn_moved hW.alike (g.2.1 _ _ f1)
  obtain ⟨cf, kf, fi, f, hi, hsl⟩ := hS k f2
  have hlay := xlays g f1 f2 hW args
  have hst := (u_facts hfc hkC hlay hi).1
  have hi2 : s.fieldFound? ref (cd.2.1 k).2.1 (cd.2.1 k).2.2.1 = some (cf, kf, fi, f) := by
    rcases f3 with rfl | f3
    · exact hi
    · exact u_same (xword g f3 rfl hW args) _ hi
  have hown := C.2.2.2.2.2.1
  rw [xm_own] at hown
  have hvm : cell.vm = .none := c4 h0
  obtain ⟨q1, q2⟩ := u_fits hfc hkC hkind hlay hi w4 n1 n2
  have hlt : f.slot < cell.slots.size := by
    rw [hsl]
    have z : k < fs.length := hlen
    exact k2_hasslot (c8 k fs[k] (List.getElem?_eq_getElem z))
  have hfin : hasFlag f.accessFlags Acc.final = false ∨ (m.cls = cf ∧ meth.name = "<init>") := by
    have hl2 := xword g (xcl_ws f1 _ (u_in_lay f2)) (by unfold u_lay; split <;> rfl) hW args
    unfold u_lay at hl2
    cases hfn : fin with
    | false =>
      rw [hfn] at w2
      rw [if_neg (by rw [w2]; decide)] at hl2
      exact Or.inl (u_store hfc hkC hkind hl2 hi w4 n1 n2).1
    | true =>
      rw [if_pos (w2.trans hfn)] at hl2
      refine Or.inr ⟨?_, by rw [C.2.2.2.2.2.2.1]; exact hin hfn⟩
      obtain ⟨_, _, c', _, _, _, -, -, hf', -, -, -, hown2, -⟩ := Cond.laysFinal_spec hl2
      have e1 : c' = cf := by have := hi.symm.trans hf'; simp at this; exact this.1.symm
      rw [w3 hfn] at hown2
      rw [← e1]
      exact Option.some.inj (hown.symm.trans hown2)
  have hlta : a < H.size := (Array.getElem?_eq_some_iff.mp c1).1
  have k9 : W p E.1 e (xrm i) s m args below meth c (H.setIfInBounds a (cell.setSlot f.slot v)) (locs ++ [⟨a, f.slot⟩]) cells slots (Z below args s) (F0 m (pc + 3) ls r) := by
    refine kk g p e s m args below meth c _ _ cells slots ls C (hM.put h0 (by simp) (fun q hq => by simp [Array.getElem?_setIfInBounds, Ne.symm hq]) (hA.setF g f1 c1 (k := k) (v := v) ?_ f2 hlen ?_)) (by simp; exact hn) hl hL hc hs (xlocs hq h0)
    · rw [hsl]; simp [Array.getElem?_setIfInBounds, hlta]
    · rw [← hsl]; exact hlt
  rcases f4 with f4 | ⟨host, f4⟩
  · exact W.putf C.1 C.2.1 hown (xword g f4 rfl hW args) hi2 hst hfin c1 c3 hlt q1 (by rw [hvm, c6]; exact q2) rfl rfl hd k9
  · exact va_Wputf C.1 C.2.1 hown (xword g f4 rfl hW args) hi2 hst hfin c1 c3 hlt q1 (by rw [hvm, c6]; exact q2) rfl rfl hd k9
theorem xs_getstatic (hK : ∀ pc L st M nx cb sb, K pc L st M nx cb sb → XZ E i Z pc L st M nx cb sb) (hd : decode (xcode i) pc = .ok (.getstatic idx, 3)) (hr : xlk (xcn i) idx 52 = some row) (h : xstep K KX Rf E pc 3 L st M nx cb sb row) : XZ E i Z pc L st M nx cb sb := by
  obtain ⟨v, C0, n0, d0, rfl, f1, f2⟩ := xlk_spec hr
  have kk := hK _ _ _ _ _ _ _ h
  intro g p e s m args below meth c H locs cells slots ls C hM hn hl hL hc hs hq
  have hW := C.2.2.2.2.2.2.2
  have hown := C.2.2.2.2.2.1
  rw [xm_own] at hown
  obtain ⟨cf, kf, fi, f, a, cell, h1, h2, h3, h4, h5, h6, h7, h8⟩ := (g.2.2.2.1 _ f1).moved hW.alike
  have h9 : H[a]? = some cell := by rw [hM.2.1 a (Nat.not_le.mp h8)]; exact h5
  exact W.gets C.1 C.2.1 hown (xword g f2 rfl hW args) h1 h2 h3 h4 h9 (fun z => by rw [z] at h6; cases h6) h7 rfl hd (kk g p e s m args below meth c H locs cells slots ls C hM hn hl hL hc hs hq)
theorem xs_new (hK : ∀ pc L st M nx cb sb, K pc L st M nx cb sb → XZ E i Z pc L st M nx cb sb) (hd : decode (xcode i) pc = .ok (.new idx, 3)) (hr : xlk (xcn i) idx 53 = some row) (h : xstep K KX Rf E pc 3 L st M nx cb sb row) : XZ E i Z pc L st M nx cb sb := by
  obtain ⟨ci, n, cd, rfl, f1, f2, f3, f4⟩ := xlk_spec hr
  obtain ⟨h1, h2, h⟩ := h
  have kk := hK _ _ _ _ _ _ _ h
  intro g p e s m args below meth c H locs cells slots ls C hM hn hl hL hc hs hq
  have hW := C.2.2.2.2.2.2.2
  have hown := C.2.2.2.2.2.1
  rw [xm_own] at hown
  subst hn
  have hKn := u_Kn_moved hW.alike (g.2.1 _ _ f1)
  refine W.newcK C.1 C.2.1 hown (xword g f2 rfl hW args) (xword g f3 rfl hW args) (xword g f4 rfl hW args) rfl hd (by show _ ≤ xmc i; omega) (by show _ ≤ xms i; omega) hKn.2.1 rfl fun H1 kC hkC e1 z1 o1 => ?_
  refine kk g p e s m args below meth c H1 locs (cells + 1) (slots + n) ls C (hM.new z1 o1 ⟨_, e1, rfl, (fun z => nomatch z), (fun _ => rfl), cd, f1, rfl, xdef_len f1, fun k v hv => ?_⟩) z1 hl hL (by omega) (by omega) hq
  obtain ⟨ty, hk, hty, rfl⟩ := xdef_at f1 hv
  obtain ⟨cf, kf, fi, fd, hi, he⟩ := hKn.1 k hk
  have h3 := (u_facts hKn.2.1 hkC (xlays g f1 hk hW args) hi).2.2
  rw [(State.fieldFound?_type hi hty).2] at h3
  rw [← he]
  exact k2_blank h3
theorem xs_anewarray (hK : ∀ pc L st M nx cb sb, K pc L st M nx cb sb → XZ E i Z pc L st M nx cb sb) (hd : decode (xcode i) pc = .ok (.anewarray idx, 3)) (hr : xlk (xcn i) idx 55 = some row) (h : xstep K KX Rf E pc 3 L st M nx cb sb row) : XZ E i Z pc L st M nx cb sb := by
  obtain ⟨t, cd, rfl, f0, f1, f2, f3⟩ := xlk_spec hr
  obtain ⟨n, r, rfl, h1, h2, h3, h4, h⟩ := xI1_spec h
  have kk := hK _ _ _ _ _ _ _ h
  intro g p e s m args below meth c H locs cells slots ls C hM hn hl hL hc hs hq
  have hW := C.2.2.2.2.2.2.2
  have hown := C.2.2.2.2.2.1
  rw [xm_own] at hown
  subst hn
  have hty : xaty t = .object cd.1 := by rw [xaty_ref f0, f1]; rfl
  refine W.anew C.1 C.2.1 hown (xword g f2 rfl hW args) (xword g f3 rfl hW args) rfl hd rfl h1 (by omega) (by show _ ≤ xmc i; omega) (by show _ ≤ xms i; omega) fun cA kA comp g1 g2 g3 g4 => ?_
  generalize hH1 : H.push ({ cls := cA, slots := Array.replicate n.toNatClampNeg .null, vm := .none } : Cell) = H1
  have z1 : H1.size = H.size + 1 := by rw [← hH1, Array.size_push]
  have e1 : H1[H.size]? = some ({ cls := cA, slots := Array.replicate n.toNatClampNeg .null, vm := .none } : Cell) := by rw [← hH1, Array.getElem?_push_size]
  have o1 : ∀ q : Nat, q < H.size → H1[q]? = H[q]? := fun q hq => by rw [← hH1, Array.getElem?_push, if_neg (Nat.ne_of_lt hq)]
  obtain ⟨k', hk', he⟩ := hW.alike.symm.2.2 _ _ g2
  refine kk g p e s m args below meth c H1 locs (cells + 1) (slots + n.toNatClampNeg) ls C (hM.new z1 o1 ⟨_, e1, rfl, (fun z => nomatch z), (fun _ => rfl), ⟨k', comp, hk', (by rw [he, g3, hty]), (fun C2 z => ?_), (fun _ => by rw [← hW.alike.findClass, hty]; exact g1)⟩, ?_, fun j hj => ?_, fun _ => arrV_new _ _ _⟩) z1 hl hL (by omega) (by omega) hq
  · rw [hty] at z
    cases z
    rw [← hW.alike.findClass]
    exact g4
  · show (Array.replicate _ _).size = _
    rw [Array.size_replicate]
  · show (Array.replicate _ _)[j]? = _
    rw [Array.getElem?_replicate, if_pos hj]
theorem xs_ldc (hK : ∀ pc L st M nx cb sb, K pc L st M nx cb sb → XZ E i Z pc L st M nx cb sb) (hd : decode (xcode i) pc = .ok (.ldc idx, 2)) (hr : xlk (xcn i) idx 60 = some row) (h : xstep K KX Rf E pc 2 L st M nx cb sb row) : XZ E i Z pc L st M nx cb sb := by
  rcases xlk_spec hr with ⟨n, tx, rfl, f1⟩ | ⟨v, rfl, f1⟩
  · have kk := hK _ _ _ _ _ _ _ h
    intro g p e s m args below meth c H locs cells slots ls C hM hn hl hL hc hs hq
    have hown := C.2.2.2.2.2.1
    rw [xm_own] at hown
    have z0 : vk_R (xown (xcn i)) idx tx (E.2.2.2 n) E.2.1 := g.2.2.1 (xown (xcn i), idx, tx, n) f1
    have z1 : vk_R (xown (xcn i)) idx tx (E.2.2.2 n) s := vk_R.warm C.2.2.2.2.2.2.2 z0
    exact va_ldcS (own := xown (xcn i)) (tx := tx) (q := E.2.2.2 n) C.1 C.2.1 hown z1 hd (kk g p e s m args below meth c H locs cells slots ls C hM hn hl hL hc hs hq)
  · have kk := hK _ _ _ _ _ _ _ h
    intro g p e s m args below meth c H locs cells slots ls C hM hn hl hL hc hs hq
    have hown := C.2.2.2.2.2.1
    rw [xm_own] at hown
    exact lv_ldc C.1 C.2.1 hown (xword g f1 rfl C.2.2.2.2.2.2.2 args) hd (kk g p e s m args below meth c H locs cells slots ls C hM hn hl hL hc hs hq)
theorem xrecv {E : xE} (g : xglob E) {M : xM} {H : Heap} {s : State} {b ci : Nat} {fs : List Value} {cd : vw_C} (hM : xrep E M H) (hW : E.2.1.WarmedH s.vm) (h : M b = some (.inl (ci, fs))) (f1 : xcl[ci]? = some cd) : ∃ cell : Cell, H[b]? = some cell ∧ cell.vm.isStatics = false ∧ s.vm.findClass cd.1 = some cell.cls := by
  obtain ⟨cell, c1, c2, c3, c4, cd', c5, c6, c7, c8⟩ := hM.2.2 b _ h
  have hKn := u_Kn_moved hW.alike (g.2.1 _ _ f1)
  exact ⟨cell, c1, c2, by rw [c6]; exact hKn.2.1⟩
theorem xs_instanceof (hK : ∀ pc L st M nx cb sb, K pc L st M nx cb sb → XZ E i Z pc L st M nx cb sb) (hd : decode (xcode i) pc = .ok (.instanceof idx, 3)) (hr : xlk (xcn i) idx 61 = some row) (h : xstep K KX Rf E pc 3 L st M nx cb sb row) : XZ E i Z pc L st M nx cb sb := by
  obtain ⟨ci, cd, rfl, f1, f2⟩ := xlk_spec hr
  obtain ⟨a, r, rfl, h⟩ := xA1_spec h
  obtain ⟨fs, g1, h⟩ := xobj_spec h
  have kk := hK _ _ _ _ _ _ _ h
  intro g p e s m args below meth c H locs cells slots ls C hM hn hl hL hc hs hq
  have hown := C.2.2.2.2.2.1
  rw [xm_own] at hown
  exact va_instE C.1 C.2.1 hown (xword g f2 rfl C.2.2.2.2.2.2.2 args) (xrecv g hM C.2.2.2.2.2.2.2 g1 f1) hd (kk g p e s m args below meth c H locs cells slots ls C hM hn hl hL hc hs hq)
theorem xs_checkcast (hK : ∀ pc L st M nx cb sb, K pc L st M nx cb sb → XZ E i Z pc L st M nx cb sb) (hd : decode (xcode i) pc = .ok (.checkcast idx, 3)) (hr : xlk (xcn i) idx 62 = some row) (h : xstep K KX Rf E pc 3 L st M nx cb sb row) : XZ E i Z pc L st M nx cb sb := by
  obtain ⟨ci, cd, rfl, f1, f2⟩ := xlk_spec hr
  obtain ⟨a, r, rfl, h⟩ := xA1_spec h
  obtain ⟨fs, g1, h⟩ := xobj_spec h
  have kk := hK _ _ _ _ _ _ _ h
  intro g p e s m args below meth c H locs cells slots ls C hM hn hl hL hc hs hq
  have hown := C.2.2.2.2.2.1
  rw [xm_own] at hown
  exact va_castE C.1 C.2.1 hown (xword g f2 rfl C.2.2.2.2.2.2.2 args) (xrecv g hM C.2.2.2.2.2.2.2 g1 f1) hd (kk g p e s m args below meth c H locs cells slots ls C hM hn hl hL hc hs hq)
end XL
end XS
