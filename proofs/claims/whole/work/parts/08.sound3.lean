section XS
variable {E : xE} {i : Nat} {Z : List Frame → Array Value → State → State → Prop} {pc : Nat} {L : List (Option Value)} {st : List Value} {M : xM} {nx cb sb : Nat}
theorem xcodeW {E : xE} (g : xglob E) {j n : Nat} (f : xcallee j n) {s : State} (hW : E.2.1.WarmedH s.vm) : ∀ w ∈ [Cond.code (xy j) (xcode j) (xmax j) (xret j)], ∀ (a' : Array Value) (U : State), s.WarmedH U.vm → w.before a' U = true := by
  intro w hw a' U hU
  rw [List.mem_singleton] at hw
  subst hw
  exact xword g f.1 rfl (State.WarmedH.trans hW hU) a'
theorem xcatsum : ∀ {r : List Value}, r.length ≤ 4 → (r.map fun v => v.category).sum ≤ 8 := by
  have h : ∀ (r : List Value), (r.map fun v => v.category).sum ≤ 2 * r.length := by
    intro r
    induction r with
    | nil => simp
    | cons v r ih =>
      have := lv_cat v
      simp only [List.map_cons, List.sum_cons, List.length_cons]
      omega
  intro r hr
  have := h r
  omega
theorem xlm_spec {i : Nat} {o : Option xI} {r : xI} (h : xlm i o = some r) : o = some r ∧ xlmOk i r = true := by
  unfold xlm at h
  obtain ⟨q, h1, h2⟩ := Option.bind_eq_some_iff.mp h
  obtain ⟨h3, h4⟩ := xite_spec h2
  cases h4
  exact ⟨h1, h3⟩
theorem xsel_up {C : String} {y : MethodName} {s : State} {args : Array Value} {n : Nat} (hy : y.cls ≠ "java/lang/invoke/MethodHandle" ∧ y.cls ≠ "java/lang/invoke/VarHandle") (hins : (Cond.instantiable C n).before args s = true) (hsame : (Cond.sameMethod y.cls y.cls y.name y.desc).before args s = true) (hpriv : (Cond.privateMethod y).before args s = true) (hinst : (Cond.instanceMethod y).before args s = true) :
    (Cond.selects C y y).before args s = true := by
  obtain ⟨c, k, hc, hk, -, -, -, -⟩ := Cond.instantiable_spec hins
  obtain ⟨cn, ck, r1, hcn, hck, hni, hf, hn1⟩ := Cond.sameMethod_found hsame
  obtain ⟨mk, methM, hnamed, hmethM, -, -⟩ := Cond.instanceMethod_spec hinst
  have hfound : s.methodFound? y.cls y.name y.desc = some mk := State.methodFound?_of_named hnamed hy
  have hcls : mk.cls = cn := Option.some.inj ((findClass_of_methodNamed hnamed).symm.trans hcn)
  have hsel : selectMethod {} s.vm c mk = .method mk := selectMethod_private hmethM (Cond.privateMethod_at hpriv mk methM hnamed hmethM)
  simp only [Cond.before, Cond.holds, Cond.value, hc, hfound, hnamed, hsel, hcls, hck]
  simp
  exact hni
theorem xselW {E : xE} (g : xglob E) {C : String} {j n : Nat} (f2 : xcallee j n) (f6 : Cond.instanceMethod (xy j) ∈ lw_tbl) (h : Cond.selects C (xy j) (xy j) ∈ lw_tbl ∨ ∃ nn, Cond.instantiable C nn ∈ lw_tbl ∧ Cond.sameMethod (xy j).cls (xy j).cls (xy j).name (xy j).desc ∈ lw_tbl ∧ Cond.privateMethod (xy j) ∈ lw_tbl) {s : State} (hW : E.2.1.WarmedH s.vm) (args : Array Value) : (Cond.selects C (xy j) (xy j)).before args s = true := by
  rcases h with h | ⟨nn, h1, h2, h3⟩
  · exact xword g h rfl hW args
  · exact xmoved rfl hW (xsel_up ⟨f2.2.2.1.1, f2.2.2.1.2.1⟩ (g.1 _ h1) (g.1 _ h2) (g.1 _ h3) (g.1 _ f6)) args
section XM
variable {K KX : Nat → List (Option Value) → List Value → xM → Nat → Nat → Nat → Prop} {Rf : Option Value → xM → Nat → Prop} {idx : Nat} {row : xI}
theorem xs_invokevirtual (hK : ∀ pc L st M nx cb sb, K pc L st M nx cb sb → XZ E i Z pc L st M nx cb sb) (hKX : ∀ pc L st M nx cb sb, KX pc L st M nx cb sb → XZ E i Z pc L st M nx cb sb) (hd : decode (xcode i) pc = .ok (.invokevirtual idx, 3)) (hr : xlm i (xlk (xcn i) idx 70) = some row) (h : xstep K KX Rf E pc 3 L st M nx cb sb row) : XZ E i Z pc L st M nx cb sb := by
  obtain ⟨hr, b1⟩ := xlm_spec hr
  obtain ⟨j, n, ci, cd, rfl, f1, f2, f6, f7, f8⟩ := xlk_spec hr
  obtain ⟨b2, b3, b4⟩ := xlmOk_spec b1 (by dsimp only; decide)
  dsimp only at b2 b3 b4
  dsimp only [xstep] at h
  obtain ⟨b, As, r, rfl, hlen, h1, h2, h3, h4, h5, h⟩ := xD_spec h
  obtain ⟨fs, g1, -⟩ := xobj_spec h1
  intro g p e s m args below meth c H locs cells slots ls C hM hn hl hL hc hs hq
  have hW := C.2.2.2.2.2.2.2
  have hown := C.2.2.2.2.2.1
  rw [xm_own] at hown
  have hMet := xmet g h f2.2.2.2 (by have : As.length + 1 ≤ xmax j := by rw [hlen]; exact b4
                                     simpa using this) (fun v hv => by
    rcases List.mem_cons.mp hv with rfl | hv
    · rfl
    · exact xcat1_spec h2 v hv)
  have hpar : ∀ sig, parseMethodDescriptor (xy j).desc = some sig → n = sig.parameters.length := fun sig hsg => by
    have z := f2.2.2.1.2.2
    rw [hsg] at z
    exact (Option.some.inj z).symm
  have hpv : PreV s H cd.1 b (fun a s => a = (Value.ref b :: As).toArray ∧ E.2.1.WarmedH s.vm ∧ xrep E M s.heap ∧ s.heap.size = nx) As :=
    ⟨fun _ _ _ _ q => q, xrecv g hM hW g1 f1, fun U hU hWU => ⟨rfl, State.WarmedH.trans hW hWU, by rw [hU]; exact hM, by rw [hU]; exact hn⟩⟩
  have hfit : cells + xmc j ≤ (xrm i).cells ∧ slots + xms j ≤ (xrm i).slots := ⟨by show _ ≤ xmc i; omega, by show _ ≤ xms i; omega⟩
  have hsz : ls.size = xmax i := by rw [← hL]; exact hl.1.1
  have run : va_Run p E.1 e (xrm i) s m args below meth c H locs cells slots (xmc j) (xms j) (F0 m pc ls (As.reverse ++ .ref b :: r)) r (fun _ o t => ∃ (v : Option Value) (M' : xM), o = .returned v ∧ xrep E M' t.heap ∧ KX (pc + 3) L (v.toList ++ r) M' t.heap.size (cb - xmc j) (sb - xms j)) (fun q => E.2.1.heap.size ≤ q) := by
    rcases f8 with f8 | ⟨host, f8⟩
    · exact va_runV (Ts := []) (own := xown (xcn i)) (C := cd.1) (n := n) (bytes := xcode j) (maxL := xmax j) (ret := xret j) ⟨C.1, C.2.1, C.2.2.1, hown, (fun w h => by cases h)⟩ hMet ⟨⟨rfl, rfl, b2, b3, xcodeW g f2 hW, List.mem_cons_self, xword g f2.1 rfl hW args, xword g f2.2.1 rfl hW args, ⟨f2.2.2.1.1, f2.2.2.1.2.1⟩, hpar, xword g f8 rfl hW args⟩, xword g f6 rfl hW args, xselW g f2 f6 f7 hW args⟩ hpv rfl hlen hsz rfl (lv_room (xcatsum h3)) hd hfit
    · exact va_runVN (Ts := []) (own := xown (xcn i)) (C := cd.1) (n := n) (bytes := xcode j) (maxL := xmax j) (ret := xret j) ⟨C.1, C.2.1, C.2.2.1, hown, (fun w h => by cases h)⟩ hMet ⟨⟨⟨rfl, rfl, b2, b3, xcodeW g f2 hW, List.mem_cons_self⟩, xword g f2.1 rfl hW args, xword g f2.2.1 rfl hW args, ⟨f2.2.2.1.1, f2.2.2.1.2.1⟩, hpar, xword g f8 rfl hW args⟩, xword g f6 rfl hW args, xselW g f2 f6 f7 hW args⟩ hpv rfl hlen hsz rfl (lv_room (xcatsum h3)) hd hfit
  intro T hT X
  obtain ⟨v, st₀, t, T', Lc, h0, X', hLc, e1, e2, ⟨v', M', hv', hr', hq'⟩, stp⟩ := run T hT X
  cases hv'
  obtain ⟨t2, a1, a2⟩ := hKX _ _ _ _ _ _ _ hq' g p e s m args below meth c t.heap (locs ++ Lc) (cells + xmc j) (slots + xms j) ls C hr' rfl hl hL (by omega) (by omega) (t_lL (free := fun q => E.2.1.heap.size ≤ q) hq hLc) T' e1 X'
  exact ⟨t2, stp t2 a1, a2⟩
theorem xs_invokestatic (hK : ∀ pc L st M nx cb sb, K pc L st M nx cb sb → XZ E i Z pc L st M nx cb sb) (hKX : ∀ pc L st M nx cb sb, KX pc L st M nx cb sb → XZ E i Z pc L st M nx cb sb) (hd : decode (xcode i) pc = .ok (.invokestatic idx, 3)) (hr : xlm i (xlk (xcn i) idx 71) = some row) (h : xstep K KX Rf E pc 3 L st M nx cb sb row) : XZ E i Z pc L st M nx cb sb := by
  obtain ⟨hr, b1⟩ := xlm_spec hr
  obtain ⟨j, n, rfl, f2, f6, f8⟩ := xlk_spec hr
  obtain ⟨b2, b3, b4⟩ := xlmOk_spec b1 (by dsimp only; decide)
  dsimp only at b2 b3 b4
  dsimp only [xstep] at h
  obtain ⟨As, r, rfl, hlen, h2, h3, h4, h5, h⟩ := xDs_spec h
  intro g p e s m args below meth c H locs cells slots ls C hM hn hl hL hc hs hq
  have hW := C.2.2.2.2.2.2.2
  have hown := C.2.2.2.2.2.1
  rw [xm_own] at hown
  have hMet := xmet g h f2.2.2.2 (by rw [hlen]; exact b4) (xcat1_spec h2)
  have hpar : ∀ sig, parseMethodDescriptor (xy j).desc = some sig → n = sig.parameters.length := fun sig hsg => by
    have z := f2.2.2.1.2.2
    rw [hsg] at z
    exact (Option.some.inj z).symm
  have hpv : PreS s H (fun a s => a = As.toArray ∧ E.2.1.WarmedH s.vm ∧ xrep E M s.heap ∧ s.heap.size = nx) As :=
    ⟨fun _ _ _ _ q => q, fun U hU hWU => ⟨rfl, State.WarmedH.trans hW hWU, by rw [hU]; exact hM, by rw [hU]; exact hn⟩⟩
  have hfit : cells + xmc j ≤ (xrm i).cells ∧ slots + xms j ≤ (xrm i).slots := ⟨by show _ ≤ xmc i; omega, by show _ ≤ xms i; omega⟩
  have hsz : ls.size = xmax i := by rw [← hL]; exact hl.1.1
  have run : va_Run p E.1 e (xrm i) s m args below meth c H locs cells slots (xmc j) (xms j) (F0 m pc ls (As.reverse ++ r)) r (fun _ o t => ∃ (v : Option Value) (M' : xM), o = .returned v ∧ xrep E M' t.heap ∧ KX (pc + 3) L (v.toList ++ r) M' t.heap.size (cb - xmc j) (sb - xms j)) (fun q => E.2.1.heap.size ≤ q) := by
    rcases f8 with f8 | ⟨host, f8⟩
    · exact va_runS (Ts := []) (own := xown (xcn i)) (n := n) (bytes := xcode j) (maxL := xmax j) (ret := xret j) ⟨C.1, C.2.1, C.2.2.1, hown, (fun w h => by cases h)⟩ hMet ⟨⟨rfl, rfl, b2, b3, xcodeW g f2 hW, List.mem_cons_self, xword g f2.1 rfl hW args, xword g f2.2.1 rfl hW args, ⟨f2.2.2.1.1, f2.2.2.1.2.1⟩, hpar, xword g f8 rfl hW args⟩, xword g f6 rfl hW args⟩ hpv rfl hlen hsz rfl (lv_room (xcatsum h3)) hd hfit
    · exact va_runSN (Ts := []) (own := xown (xcn i)) (n := n) (bytes := xcode j) (maxL := xmax j) (ret := xret j) ⟨C.1, C.2.1, C.2.2.1, hown, (fun w h => by cases h)⟩ hMet ⟨⟨⟨rfl, rfl, b2, b3, xcodeW g f2 hW, List.mem_cons_self⟩, xword g f2.1 rfl hW args, xword g f2.2.1 rfl hW args, ⟨f2.2.2.1.1, f2.2.2.1.2.1⟩, hpar, xword g f8 rfl hW args⟩, xword g f6 rfl hW args, trivial⟩ hpv rfl hlen hsz rfl (lv_room (xcatsum h3)) hd hfit
  intro T hT X
  obtain ⟨v, st₀, t, T', Lc, h0, X', hLc, e1, e2, ⟨v', M', hv', hr', hq'⟩, stp⟩ := run T hT X
  cases hv'
  obtain ⟨t2, a1, a2⟩ := hKX _ _ _ _ _ _ _ hq' g p e s m args below meth c t.heap (locs ++ Lc) (cells + xmc j) (slots + xms j) ls C hr' rfl hl hL (by omega) (by omega) (t_lL (free := fun q => E.2.1.heap.size ≤ q) hq hLc) T' e1 X'
  exact ⟨t2, stp t2 a1, a2⟩
theorem xs_invokespecial (hK : ∀ pc L st M nx cb sb, K pc L st M nx cb sb → XZ E i Z pc L st M nx cb sb) (hKX : ∀ pc L st M nx cb sb, KX pc L st M nx cb sb → XZ E i Z pc L st M nx cb sb) (hd : decode (xcode i) pc = .ok (.invokespecial idx, 3)) (hr : xlm i (xlk (xcn i) idx 72) = some row) (h : xstep K KX Rf E pc 3 L st M nx cb sb row) : XZ E i Z pc L st M nx cb sb := by
  obtain ⟨hr, b1⟩ := xlm_spec hr
  rcases xlk_spec hr with ⟨rfl, f1, f2, f3⟩ | ⟨j, n, rfl, f2, f4, f5, f6, f8⟩
  · obtain ⟨a, r, rfl, h1, h⟩ := xA1_spec h
    have kk := hK _ _ _ _ _ _ _ h
    obtain ⟨b2, b3⟩ := xlmOk_obj b1
    intro g p e s m args below meth c H locs cells slots ls C hM hn hl hL hc hs hq
    have hW := C.2.2.2.2.2.2.2
    have hown := C.2.2.2.2.2.1
    rw [xm_own] at hown
    have hsz : ls.size = xmax i := by rw [← hL]; exact hl.1.1
    have h8 := xcatsum h1
    exact W.objInit C.1 C.2.1 hown (xword g f1 rfl hW args) (xword g f2 rfl hW args) (xword g f3 rfl hW args) rfl (hsz.trans C.2.2.1.symm) rfl hd b2 (by show 2 * 0 + _ + 12 ≤ xlo i; omega) (kk g p e s m args below meth c H locs cells slots ls C hM hn hl hL hc hs hq)
  obtain ⟨b2, b3, b4⟩ := xlmOk_spec b1 (by dsimp only; decide)
  dsimp only at b2 b3 b4
  dsimp only [xstep] at h
  obtain ⟨b, As, r, rfl, hlen, h2, h3, h4, h5, h⟩ := xD_spec h
  intro g p e s m args below meth c H locs cells slots ls C hM hn hl hL hc hs hq
  have hW := C.2.2.2.2.2.2.2
  have hown := C.2.2.2.2.2.1
  rw [xm_own] at hown
  have hMet := xmet g h f2.2.2.2 (by have : As.length + 1 ≤ xmax j := by rw [hlen]; exact b4
                                     simpa using this) (fun v hv => by
    rcases List.mem_cons.mp hv with rfl | hv
    · rfl
    · exact xcat1_spec h2 v hv)
  have hpar : ∀ sig, parseMethodDescriptor (xy j).desc = some sig → n = sig.parameters.length := fun sig hsg => by
    have z := f2.2.2.1.2.2
    rw [hsg] at z
    exact (Option.some.inj z).symm
  have hpv : PreS s H (fun a s => a = (Value.ref b :: As).toArray ∧ E.2.1.WarmedH s.vm ∧ xrep E M s.heap ∧ s.heap.size = nx) (.ref b :: As) :=
    ⟨fun _ _ _ _ q => q, fun U hU hWU => ⟨rfl, State.WarmedH.trans hW hWU, by rw [hU]; exact hM, by rw [hU]; exact hn⟩⟩
  have hfit : cells + xmc j ≤ (xrm i).cells ∧ slots + xms j ≤ (xrm i).slots := ⟨by show _ ≤ xmc i; omega, by show _ ≤ xms i; omega⟩
  have hsz : ls.size = xmax i := by rw [← hL]; exact hl.1.1
  rw [f5] at hMet
  have hcw : ∀ w ∈ [Cond.code (xy j) (xcode j) (xmax j) none], ∀ (a' : Array Value) (U : State), s.WarmedH U.vm → w.before a' U = true := by
    have z := xcodeW g f2 hW
    rw [f5] at z
    exact z
  have hcd : (Cond.code (xy j) (xcode j) (xmax j) none).before args s = true := by
    have z := xword g f2.1 rfl hW args
    rw [f5] at z
    exact z
  have run : va_Run p E.1 e (xrm i) s m args below meth c H locs cells slots (xmc j) (xms j) (F0 m pc ls (As.reverse ++ .ref b :: r)) r (fun _ o t => ∃ (v : Option Value) (M' : xM), o = .returned v ∧ xrep E M' t.heap ∧ KX (pc + 3) L (v.toList ++ r) M' t.heap.size (cb - xmc j) (sb - xms j)) (fun q => E.2.1.heap.size ≤ q) := by
    rcases f8 with f8 | ⟨host, f8⟩
    · exact va_runI (Ts := []) (own := xown (xcn i)) (n := n) (bytes := xcode j) (maxL := xmax j) ⟨C.1, C.2.1, C.2.2.1, hown, (fun w h => by cases h)⟩ hMet ⟨⟨rfl, rfl, b2, b3, hcw, List.mem_cons_self, hcd, xword g f2.2.1 rfl hW args, ⟨f2.2.2.1.1, f2.2.2.1.2.1⟩, hpar, xword g f8 rfl hW args⟩, f4, xword g f6 rfl hW args⟩ hpv rfl hlen hsz rfl (lv_room (xcatsum h3)) hd hfit
    · exact va_runIN (Ts := []) (own := xown (xcn i)) (n := n) (bytes := xcode j) (maxL := xmax j) ⟨C.1, C.2.1, C.2.2.1, hown, (fun w h => by cases h)⟩ hMet ⟨⟨⟨rfl, rfl, b2, b3, hcw, List.mem_cons_self⟩, hcd, xword g f2.2.1 rfl hW args, ⟨f2.2.2.1.1, f2.2.2.1.2.1⟩, hpar, xword g f8 rfl hW args⟩, f4, xword g f6 rfl hW args⟩ hpv rfl hlen hsz rfl (lv_room (xcatsum h3)) hd hfit
  intro T hT X
  obtain ⟨v, st₀, t, T', Lc, h0, X', hLc, e1, e2, ⟨v', M', hv', hr', hq'⟩, stp⟩ := run T hT X
  cases hv'
  obtain ⟨t2, a1, a2⟩ := hKX _ _ _ _ _ _ _ hq' g p e s m args below meth c t.heap (locs ++ Lc) (cells + xmc j) (slots + xms j) ls C hr' rfl hl hL (by omega) (by omega) (t_lL (free := fun q => E.2.1.heap.size ≤ q) hq hLc) T' e1 X'
  exact ⟨t2, stp t2 a1, a2⟩
end XM
section XO
variable {K KX : Nat → List (Option Value) → List Value → xM → Nat → Nat → Nat → Prop} {Rf : Option Value → xM → Nat → Prop} {idx : Nat} {row : xI}
theorem xs_getstaticR (hK : ∀ pc L st M nx cb sb, K pc L st M nx cb sb → XZ E i Z pc L st M nx cb sb) (hd : decode (xcode i) pc = .ok (.getstatic idx, 3)) (hr : xlk (xcn i) idx 152 = some row) (h : xstep K KX Rf E pc 3 L st M nx cb sb row) : XZ E i Z pc L st M nx cb sb := by
  obtain ⟨rfl, f2⟩ := xlk_spec hr
  intro g p e s m args below meth c H locs cells slots ls C hM hn hl hL hc hs hq
  have hW := C.2.2.2.2.2.2.2
  have hown := C.2.2.2.2.2.1
  rw [xm_own] at hown
  have kk := fun o => hK _ _ _ _ _ _ _ (h o) g p e s m args below meth c H locs cells slots ls C hM hn hl hL hc hs hq
  rcases g.2.2.2.2 with z | ⟨t, z⟩
  · obtain ⟨cf, kf, fi, f, a, cell, h1, h2, h3, h4, h5, h6, h7, h8⟩ := z.moved hW.alike
    exact W.gets C.1 C.2.1 hown (xword g f2 rfl hW args) h1 h2 h3 h4 (by rw [hM.2.1 a (Nat.not_le.mp h8)]; exact h5) (fun z => by rw [z] at h6; cases h6) h7 rfl hd (kk none)
  · obtain ⟨cf, kf, fi, f, a, cell, h1, h2, h3, h4, h5, h6, h7, h8⟩ := z.moved hW.alike
    exact W.gets C.1 C.2.1 hown (xword g f2 rfl hW args) h1 h2 h3 h4 (by rw [hM.2.1 a (Nat.not_le.mp h8)]; exact h5) (fun z => by rw [z] at h6; cases h6) h7 rfl hd (kk (some t))
theorem xs_castA (hK : ∀ pc L st M nx cb sb, K pc L st M nx cb sb → XZ E i Z pc L st M nx cb sb) (hd : decode (xcode i) pc = .ok (.checkcast idx, 3)) (hr : xlk (xcn i) idx 162 = some row) (h : xstep K KX Rf E pc 3 L st M nx cb sb row) : XZ E i Z pc L st M nx cb sb := by
  obtain ⟨rfl, f2⟩ := xlk_spec hr
  obtain ⟨a, r, rfl, h0, h⟩ := xA1_spec h
  obtain ⟨t, n, f, g1, rfl, h⟩ := xarr_spec h
  have kk := hK _ _ _ _ _ _ _ h
  intro g p e s m args below meth c H locs cells slots ls C hM hn hl hL hc hs hq
  have hW := C.2.2.2.2.2.2.2
  have hown := C.2.2.2.2.2.1
  rw [xm_own] at hown
  obtain ⟨cell, c1, c2, c3, c4, ⟨k, comp, k1, k2, k3, k4⟩, c6, c7, c8⟩ := hM.2.2 a _ g1
  have hnm : s.vm.findClass "[B" = some cell.cls := by rw [hW.alike.findClass]; exact k4 h0
  exact va_castE C.1 C.2.1 hown (xword g f2 rfl hW args) ⟨cell, c1, c2, hnm⟩ hd (kk g p e s m args below meth c H locs cells slots ls C hM hn hl hL hc hs hq)
theorem xs_clone (hK : ∀ pc L st M nx cb sb, K pc L st M nx cb sb → XZ E i Z pc L st M nx cb sb) (hd : decode (xcode i) pc = .ok (.invokevirtual idx, 3)) (hr : xls i (xlk (xcn i) idx 180) = some row) (h : xstep K KX Rf E pc 3 L st M nx cb sb row) : XZ E i Z pc L st M nx cb sb := by
  obtain ⟨⟨b1, b2⟩, hr⟩ := xite_spec hr
  obtain ⟨rfl, f1, f2, f3, f4, f5, f6⟩ := xlk_spec hr
  obtain ⟨a, r, rfl, h3, h0, h⟩ := xA1_spec h
  obtain ⟨t, n, f, g1, rfl, h4, h5, h6, h⟩ := xarr_spec h
  have kk := hK _ _ _ _ _ _ _ h
  intro g p e s m args below meth c H locs cells slots ls C hM hn hl hL hc hs hq
  have hW := C.2.2.2.2.2.2.2
  have hown := C.2.2.2.2.2.1
  rw [xm_own] at hown
  obtain ⟨cell, c1, c2, c3, c4, ⟨k, comp, k1, k2, k3, k4⟩, c6, c7, c8⟩ := hM.2.2 a _ g1
  have hnm : s.vm.findClass "[B" = some cell.cls := by rw [hW.alike.findClass]; exact k4 h0
  have hsz : ls.size = xmax i := by rw [← hL]; exact hl.1.1
  have hvm : cell.vm = .none := c4 h0
  have hcE : ({ cls := cell.cls, slots := cell.slots } : Cell) = cell := by
    rw [c8 h0]
    rfl
  obtain ⟨k', hk', he⟩ := hW.alike.2.2 _ _ k1
  obtain ⟨cA0, cC0, d1, d2, d3⟩ := Cond.castable_spec (xword g f6 rfl hW args)
  cases hnm.symm.trans d1
  subst hn
  intro T hT X
  obtain ⟨k2', hk2', he2⟩ := X.warmed.alike.2.2 _ _ hk'
  have c6 : cell.slots.size = n := c6
  have h8 := xcatsum h3
  obtain ⟨vm', X', st⟩ := X.cloneArray C.1 hown (xword g f1 rfl hW args) (xword g f2 rfl hW args) (xword g f3 rfl hW args) (xword g f4 rfl hW args) (xword g f5 rfl hW args) (a := a) (cell := cell) (by rw [hT]; exact c1) (fun q z => by rw [z] at c2; cases c2) c3 hnm d2 d3
    (fun q v hv => by
      have hk3 : T.vm.classes[cell.cls]? = some k2' := hk2'
      have hkd : k2'.kind = .array comp (.byte) := by rw [he2]; show k'.kind = _; rw [he]; exact k2
      have hqn : q < n := by
        have := (Array.getElem?_eq_some_iff.mp hv).1
        omega
      have hv2 : v = f q := by
        rw [c7 q hqn] at hv
        exact (Option.some.inj hv).symm
      rw [hv2]
      simpa [State.fitsSlot, State.slotType?, hk3, hkd] using h6 q hqn)
    (g := F0 m pc ls (.ref a :: r)) rfl (hsz.trans C.2.2.1.symm) rfl (by rw [C.2.1]; exact hd) b1 (by show 2 * 0 + _ + 14 ≤ xlo i; omega) (by show _ ≤ xmc i; omega) (by show _ ≤ xms i; rw [c6]; omega) (hloader := Vm.clonesLoader_of_array hk' (by rw [he]; exact k2))
  rw [hcE, c6] at X'
  generalize hH1 : H.push cell = H1
  have z1 : H1.size = H.size + 1 := by rw [← hH1, Array.size_push]
  have e1 : H1[H.size]? = some cell := by rw [← hH1, Array.getElem?_push_size]
  have o1 : ∀ q : Nat, q < H.size → H1[q]? = H[q]? := fun q hq => by rw [← hH1, Array.getElem?_push, if_neg (Nat.ne_of_lt hq)]
  obtain ⟨t2, a1, a2⟩ := kk g p e s m args below meth c H1 locs (cells + 1) (slots + n) ls C (hM.new z1 o1 ⟨cell, e1, c2, c3, fun _ => hvm, ⟨k, comp, k1, k2, k3, fun _ => k4 h0⟩, c6, c7, fun _ => c8 h0⟩) z1 hl hL (by omega) (by omega) hq ((T.setVm vm').pushCell cell) (by rw [← hH1, ← hT]; rfl) X'
  refine ⟨t2, st t2 ?_, a2⟩
  rw [hcE, hT]
  exact a1
theorem xs_staticS (hK : ∀ pc L st M nx cb sb, K pc L st M nx cb sb → XZ E i Z pc L st M nx cb sb) (hd : decode (xcode i) pc = .ok (.invokestatic idx, 3)) (hr : xls i (xlk (xcn i) idx 171) = some row) (h : xstep K KX Rf E pc 3 L st M nx cb sb row) : XZ E i Z pc L st M nx cb sb := by
  obtain ⟨⟨b1, b2⟩, hr⟩ := xite_spec hr
  rcases xlk_spec hr with ⟨rfl, f1, f2, f3, f4⟩ | ⟨rfl, f1, f2, f3, f4⟩ | ⟨rfl, f1, f2, f3, f4⟩
  · obtain ⟨x, y, r, rfl, h3, h⟩ := xI2_spec h
    have kk := hK _ _ _ _ _ _ _ h
    intro g p e s m args below meth c H locs cells slots ls C hM hn hl hL hc hs hq
    have hW := C.2.2.2.2.2.2.2
    have hown := C.2.2.2.2.2.1
    rw [xm_own] at hown
    have hsz : ls.size = xmax i := by rw [← hL]; exact hl.1.1
    have h8 := xcatsum h3
    exact va_mmax C.1 C.2.1 (C.2.2.1.trans hsz.symm) hown (xword g f1 rfl hW args) (xword g f2 rfl hW args) (xword g f3 rfl hW args) (xword g f4 rfl hW args) b1 (by show _ ≤ xlo i; omega) (by show _ ≤ xmc i; omega) (by show _ ≤ xms i; omega) hd (kk g p e s m args below meth c H locs cells slots ls C hM hn hl hL hc hs hq)
  · obtain ⟨x, y, r, rfl, h3, h⟩ := xI2_spec h
    have kk := hK _ _ _ _ _ _ _ h
    intro g p e s m args below meth c H locs cells slots ls C hM hn hl hL hc hs hq
    have hW := C.2.2.2.2.2.2.2
    have hown := C.2.2.2.2.2.1
    rw [xm_own] at hown
    have hsz : ls.size = xmax i := by rw [← hL]; exact hl.1.1
    have h8 := xcatsum h3
    exact va_mmin C.1 C.2.1 (C.2.2.1.trans hsz.symm) hown (xword g f1 rfl hW args) (xword g f2 rfl hW args) (xword g f3 rfl hW args) (xword g f4 rfl hW args) b1 (by show _ ≤ xlo i; omega) (by show _ ≤ xmc i; omega) (by show _ ≤ xms i; omega) hd (kk g p e s m args below meth c H locs cells slots ls C hM hn hl hL hc hs hq)
  · obtain ⟨n, dp, d, sp, a0, r, rfl, h3, h0, ⟨h1, h2, h5⟩, h⟩ := xCp_spec h
    obtain ⟨t0, n0, f, g1, h⟩ := xarr_spec h
    obtain ⟨t1, n1, gf, g2, rfl, rfl, h6, h7, h9, h⟩ := xarr_spec h
    have kk := hK _ _ _ _ _ _ _ h
    intro g p e s m args below meth c H locs cells slots ls C hM hn hl hL hc hs hq
    have hW := C.2.2.2.2.2.2.2
    have hown := C.2.2.2.2.2.1
    rw [xm_own] at hown
    have hsz : ls.size = xmax i := by rw [← hL]; exact hl.1.1
    have h8 := xcatsum h3
    have nn : ∀ z : Int32, ¬ z < 0 → z.toInt = (z.toNatClampNeg : Int) := by
      intro z hz
      have hz0 : (0 : Int) ≤ z.toInt := by
        have := Int32.not_lt.mp hz
        simpa using Int32.le_iff_toInt_le.mp this
      show z.toInt = ((z.toInt.toNat : Nat) : Int)
      omega
    obtain ⟨cs, c1, c2, c3, c4, ⟨k, comp, k1, k2, k3, k4⟩, c6, c7, c8⟩ := hM.2.2 a0 _ g1
    obtain ⟨cd, e1, e2, e3, e4, ⟨k', comp', l1, l2, l3, l4⟩, e6, e7, e8⟩ := hM.2.2 d _ g2
    obtain ⟨ka, hka, hea⟩ := hW.alike.2.2 _ _ k1
    obtain ⟨kb, hkb, heb⟩ := hW.alike.2.2 _ _ l1
    dsimp only at c6 c7 e6 e7
    have z9 : nativeFrameWords "java/lang/System" "arraycopy" 5 + 11 ≤ 30 := by decide
    intro T hT X
    obtain ⟨vm', X', step⟩ := X.arraycopy C.1 hown (xword g f1 rfl hW args) (xword g f2 rfl hW args) (xword g f3 rfl hW args) (xword g f4 rfl hW args) (src := a0) (dst := d) (cs := cs) (cd := cd) (srcPos := sp) (destPos := dp) (n := n) (by rw [hT]; exact c1) (by rw [hT]; exact e1)
      (fun q z => by rw [z] at c2; cases c2) (fun q z => by rw [z] at e2; cases e2) c3 e3 hka hkb (by rw [hea]; exact k2) (by rw [heb]; exact l2) (by simp [refKind]) h1 h2 h5
      (by rw [nn sp h1, nn n h5]; omega)
      (by rw [nn dp h2, nn n h5]; omega)
      (fun vm₁ _ q hq => by
        have e : cs.slots.getD (sp.toNatClampNeg + q) .null = f (sp.toNatClampNeg + q) := by
          rw [Array.getD_eq_getD_getElem?, c7 _ (by omega)]
          rfl
        have hb9 := h9 q hq
        refine ⟨?_, ?_⟩
        · rw [e]
          exact hb9
        · rw [e]
          generalize hv9 : f (sp.toNatClampNeg + q) = v9 at hb9
          cases v9 <;> first | exact trivial | (cases hb9))
      (g := F0 m pc ls (.int n :: .int dp :: .ref d :: .int sp :: .ref a0 :: r)) rfl (hsz.trans C.2.2.1.symm) (rest := r) rfl (by rw [C.2.1]; exact hd) b1 (by show 2 * 0 + _ + (nativeFrameWords "java/lang/System" "arraycopy" 5 + 11) ≤ xlo i; omega)
    have e9 : copied cs cd sp dp n = arrV cd.cls n1 (va_cpy f gf sp.toNatClampNeg dp.toNatClampNeg n.toNatClampNeg) := by
      have z := va_copiedX (fun z : Value => z) cs cd.cls (n0 := n0) (n1 := n1) (sp := sp.toNatClampNeg) (dp := dp.toNatClampNeg) (n := n.toNatClampNeg) f gf c7 h6
      rw [← z]
      show cd.storeRun _ _ = _
      congr 1
      exact e8 h0
    rw [e9] at X' step
    have hl9 : d < H.size := (Array.getElem?_eq_some_iff.mp e1).1
    have hheap : ((T.setVm vm').setCell d (arrV cd.cls n1 (va_cpy f gf sp.toNatClampNeg dp.toNatClampNeg n.toNatClampNeg))).heap = H.setIfInBounds d (arrV cd.cls n1 (va_cpy f gf sp.toNatClampNeg dp.toNatClampNeg n.toNatClampNeg)) := by rw [← hT]; rfl
    obtain ⟨t2, a1, a2⟩ := kk g p e s m args below meth c _ _ cells slots ls C (hM.put h0 (by simp) (fun q hq => by simp [Array.getElem?_setIfInBounds, Ne.symm hq]) ⟨arrV cd.cls n1 (va_cpy f gf sp.toNatClampNeg dp.toNatClampNeg n.toNatClampNeg), by simp [Array.getElem?_setIfInBounds, hl9], rfl, (fun z => nomatch z), (fun _ => rfl), ⟨k', comp', l1, l2, l3, l4⟩, arrV_size _ _ _, fun j hj => arrV_read _ _ hj, fun _ => rfl⟩) (by simp; exact hn) hl hL hc hs (t_lL (free := fun q => E.2.1.heap.size ≤ q) hq (fun q h => by
      obtain ⟨z, -, hz⟩ := List.mem_map.mp h
      rw [← hz]
      exact h0)) _ hheap X'
    exact ⟨t2, step t2 a1, a2⟩
theorem xs_super (hK : ∀ pc L st M nx cb sb, K pc L st M nx cb sb → XZ E i Z pc L st M nx cb sb) (hKX : ∀ pc L st M nx cb sb, KX pc L st M nx cb sb → XZ E i Z pc L st M nx cb sb) (hd : decode (xcode i) pc = .ok (.invokespecial idx, 3)) (hr : xlm i (xlk (xcn i) idx 172) = some row) (h : xstep K KX Rf E pc 3 L st M nx cb sb row) : XZ E i Z pc L st M nx cb sb := by
  obtain ⟨hr, b1⟩ := xlm_spec hr
  obtain ⟨j, n, ci, cd, rfl, f1, f2, f3, f4, f5, f6, f7⟩ := xlk_spec hr
  obtain ⟨b2, b3, b4⟩ := xlmOk_spec b1 (by dsimp only; decide)
  dsimp only at b2 b3 b4
  dsimp only [xstep] at h
  obtain ⟨b, As, r, rfl, hlen, h1, h2, h3, h4, h5, h⟩ := xD_spec h
  obtain ⟨fs, g1, -⟩ := xobj_spec h1
  intro g p e s m args below meth c H locs cells slots ls C hM hn hl hL hc hs hq
  have hW := C.2.2.2.2.2.2.2
  have hown := C.2.2.2.2.2.1
  rw [xm_own] at hown
  have hMet := xmet g h f2.2.2.2 (by have : As.length + 1 ≤ xmax j := by rw [hlen]; exact b4
                                     simpa using this) (fun v hv => by
    rcases List.mem_cons.mp hv with rfl | hv
    · rfl
    · exact xcat1_spec h2 v hv)
  have hpar : ∀ sig, parseMethodDescriptor (xy j).desc = some sig → n = sig.parameters.length := fun sig hsg => by
    have z := f2.2.2.1.2.2
    rw [hsg] at z
    exact (Option.some.inj z).symm
  have hpv : PreV s H cd.1 b (fun a s => a = (Value.ref b :: As).toArray ∧ E.2.1.WarmedH s.vm ∧ xrep E M s.heap ∧ s.heap.size = nx) As :=
    ⟨fun _ _ _ _ q => q, xrecv g hM hW g1 f1, fun U hU hWU => ⟨rfl, State.WarmedH.trans hW hWU, by rw [hU]; exact hM, by rw [hU]; exact hn⟩⟩
  have hfit : cells + xmc j ≤ (xrm i).cells ∧ slots + xms j ≤ (xrm i).slots := ⟨by show _ ≤ xmc i; omega, by show _ ≤ xms i; omega⟩
  have hsz : ls.size = xmax i := by rw [← hL]; exact hl.1.1
  have run : va_Run p E.1 e (xrm i) s m args below meth c H locs cells slots (xmc j) (xms j) (F0 m pc ls (As.reverse ++ .ref b :: r)) r (fun _ o t => ∃ (v : Option Value) (M' : xM), o = .returned v ∧ xrep E M' t.heap ∧ KX (pc + 3) L (v.toList ++ r) M' t.heap.size (cb - xmc j) (sb - xms j)) (fun q => E.2.1.heap.size ≤ q) := by
    exact va_runSU (Ts := []) (own := xown (xcn i)) (C := cd.1) (n := n) (bytes := xcode j) (maxL := xmax j) (ret := xret j) (u_Kn_moved hW.alike (g.2.1 _ _ f1)).2 ⟨C.1, C.2.1, C.2.2.1, hown, (fun w h => by cases h)⟩ hMet ⟨⟨rfl, rfl, b2, b3, xcodeW g f2 hW, List.mem_cons_self⟩, xword g f4 rfl hW args, xword g f5 rfl hW args, xword g f6 rfl hW args, xword g f7 rfl hW args, xword g f2.2.1 rfl hW args, xword g f2.1 rfl hW args, f3, hpar⟩ hpv rfl hlen hsz rfl (lv_room (xcatsum h3)) hd hfit
  intro T hT X
  obtain ⟨v, st₀, t, T', Lc, h0, X', hLc, e1, e2, ⟨v', M', hv', hr', hq'⟩, stp⟩ := run T hT X
  cases hv'
  obtain ⟨t2, a1, a2⟩ := hKX _ _ _ _ _ _ _ hq' g p e s m args below meth c t.heap (locs ++ Lc) (cells + xmc j) (slots + xms j) ls C hr' rfl hl hL (by omega) (by omega) (t_lL (free := fun q => E.2.1.heap.size ≤ q) hq hLc) T' e1 X'
  exact ⟨t2, stp t2 a1, a2⟩
theorem xs_override (hK : ∀ pc L st M nx cb sb, K pc L st M nx cb sb → XZ E i Z pc L st M nx cb sb) (hKX : ∀ pc L st M nx cb sb, KX pc L st M nx cb sb → XZ E i Z pc L st M nx cb sb) (hd : decode (xcode i) pc = .ok (.invokevirtual idx, 3)) (hr : xlm i (xlk (xcn i) idx 170) = some row) (h : xstep K KX Rf E pc 3 L st M nx cb sb row) : XZ E i Z pc L st M nx cb sb := by
  obtain ⟨hr, b1⟩ := xlm_spec hr
  obtain ⟨j, n, ci, cd, x, b0, m0, r0, rfl, f1, f2, f3, f4, f5, f6, f7, f8, f9, f10⟩ := xlk_spec hr
  obtain ⟨b2, b3, b4⟩ := xlmOk_spec b1 (by dsimp only; decide)
  dsimp only at b2 b3 b4
  dsimp only [xstep] at h
  obtain ⟨b, As, r, rfl, hlen, h1, h2, h3, h4, h5, h⟩ := xD_spec h
  obtain ⟨fs, g1, -⟩ := xobj_spec h1
  intro g p e s m args below meth c H locs cells slots ls C hM hn hl hL hc hs hq
  have hW := C.2.2.2.2.2.2.2
  have hown := C.2.2.2.2.2.1
  rw [xm_own] at hown
  have hMet := xmet g h f2.2.2.2 (by have : As.length + 1 ≤ xmax j := by rw [hlen]; exact b4
                                     simpa using this) (fun v hv => by
    rcases List.mem_cons.mp hv with rfl | hv
    · rfl
    · exact xcat1_spec h2 v hv)
  have hpar : ∀ sig, parseMethodDescriptor (xy j).desc = some sig → n = sig.parameters.length := fun sig hsg => by
    have z := f2.2.2.1.2.2
    rw [hsg] at z
    exact (Option.some.inj z).symm
  have hpv : PreV s H cd.1 b (fun a s => a = (Value.ref b :: As).toArray ∧ E.2.1.WarmedH s.vm ∧ xrep E M s.heap ∧ s.heap.size = nx) As :=
    ⟨fun _ _ _ _ q => q, xrecv g hM hW g1 f1, fun U hU hWU => ⟨rfl, State.WarmedH.trans hW hWU, by rw [hU]; exact hM, by rw [hU]; exact hn⟩⟩
  have hfit : cells + xmc j ≤ (xrm i).cells ∧ slots + xms j ≤ (xrm i).slots := ⟨by show _ ≤ xmc i; omega, by show _ ≤ xms i; omega⟩
  have hsz : ls.size = xmax i := by rw [← hL]; exact hl.1.1
  have run : va_Run p E.1 e (xrm i) s m args below meth c H locs cells slots (xmc j) (xms j) (F0 m pc ls (As.reverse ++ .ref b :: r)) r (fun _ o t => ∃ (v : Option Value) (M' : xM), o = .returned v ∧ xrep E M' t.heap ∧ KX (pc + 3) L (v.toList ++ r) M' t.heap.size (cb - xmc j) (sb - xms j)) (fun q => E.2.1.heap.size ≤ q) := by
    have hpx : ∀ sig, parseMethodDescriptor x.desc = some sig → n = sig.parameters.length := fun sig hsg => by
      have z := f10
      rw [hsg] at z
      exact (Option.some.inj z).symm
    exact va_runU (Ts := []) (own := xown (xcn i)) (C := cd.1) (owner := x.cls) (x := x) (n := n) (bytes := xcode j) (maxL := xmax j) (ret := xret j) ⟨C.1, C.2.1, C.2.2.1, hown, (fun w h => by cases h)⟩ hMet ⟨⟨rfl, rfl, b2, b3, xcodeW g f2 hW, List.mem_cons_self⟩, xword g f2.1 rfl hW args, xword g f2.2.1 rfl hW args, f9, hpx, xword g f3 rfl hW args, xword g f4 rfl hW args, va_Decl.of (xword g f5 rfl hW args) (xword g f6 rfl hW args), xword g f7 rfl hW args, xword g f8 rfl hW args⟩ hpv rfl hlen hsz rfl (lv_room (xcatsum h3)) hd hfit
  intro T hT X
  obtain ⟨v, st₀, t, T', Lc, h0, X', hLc, e1, e2, ⟨v', M', hv', hr', hq'⟩, stp⟩ := run T hT X
  cases hv'
  obtain ⟨t2, a1, a2⟩ := hKX _ _ _ _ _ _ _ hq' g p e s m args below meth c t.heap (locs ++ Lc) (cells + xmc j) (slots + xms j) ls C hr' rfl hl hL (by omega) (by omega) (t_lL (free := fun q => E.2.1.heap.size ≤ q) hq hLc) T' e1 X'
  exact ⟨t2, stp t2 a1, a2⟩
end XO
end XS
