section XS
variable {E : xE} {i : Nat} {Z : List Frame → Array Value → State → State → Prop} {pc : Nat} {L : List (Option Value)} {st : List Value} {M : xM} {nx cb sb : Nat}
theorem xstep_ok {K KX : Nat → List (Option Value) → List Value → xM → Nat → Nat → Nat → Prop} {Rf : Option Value → xM → Nat → Prop}
    (hK : ∀ pc L st M nx cb sb, K pc L st M nx cb sb → XZ E i Z pc L st M nx cb sb) (hKX : ∀ pc L st M nx cb sb, KX pc L st M nx cb sb → XZ E i Z pc L st M nx cb sb)
    (hR : ∀ pc L v M nx cb sb ins, decode (xcode i) pc = .ok (ins, 1) → xretI i ins v → Rf v M nx → XZ E i Z pc L v.toList M nx cb sb)
    {ro : xI × Nat} (ht : xtab i pc = some ro) (h : xstep K KX Rf E pc ro.2 L st M nx cb sb ro.1) : XZ E i Z pc L st M nx cb sb := by
  obtain ⟨ins, hd, hr⟩ := xtab_spec ht
  obtain ⟨row, len⟩ := ro
  dsimp only at hd hr h
  cases ins with
  | iconst n =>
    obtain ⟨rfl, rfl⟩ := xln_spec hr
    exact XZ.go (fun hx hb _ k => lv_iconst hx hb hd rfl k) (hK _ _ _ _ _ _ _ h)
  | bipush n =>
    obtain ⟨rfl, rfl⟩ := xln_spec hr
    exact XZ.go (fun hx hb _ k => lv_bipush hx hb hd rfl k) (hK _ _ _ _ _ _ _ h)
  | sipush n =>
    obtain ⟨rfl, rfl⟩ := xln_spec hr
    exact XZ.go (fun hx hb _ k => lv_sipush hx hb hd rfl k) (hK _ _ _ _ _ _ _ h)
  | aconst_null =>
    obtain ⟨rfl, rfl⟩ := xln_spec hr
    exact XZ.go (fun hx hb _ k => lv_null hx hb hd k) (hK _ _ _ _ _ _ _ h)
  | iload_n n =>
    obtain ⟨rfl, rfl⟩ := xln_spec hr
    obtain ⟨x, h1, h⟩ := xlocI_spec h
    exact XZ.go (fun hx hb hl k => lv_iload_n hx hb hd rfl (hl.at h1) k) (hK _ _ _ _ _ _ _ h)
  | iload n =>
    obtain ⟨rfl, rfl⟩ := xln_spec hr
    obtain ⟨x, h1, h⟩ := xlocI_spec h
    exact XZ.go (fun hx hb hl k => lv_iload hx hb hd (hl.at h1) k) (hK _ _ _ _ _ _ _ h)
  | aload_n n =>
    obtain ⟨rfl, rfl⟩ := xln_spec hr
    have h : xlocA L _ (fun v => K _ L (v :: st) M nx cb sb) := h
    rcases xlocA_spec h with ⟨a, h1, h⟩ | ⟨h1, h⟩
    · exact XZ.go (fun hx hb hl k => lv_aload_n hx hb hd rfl (hl.at h1) k) (hK _ _ _ _ _ _ _ h)
    · exact XZ.go (fun hx hb hl k => lv_aload_nN hx hb hd rfl (hl.at h1) k) (hK _ _ _ _ _ _ _ h)
  | aload n =>
    obtain ⟨rfl, rfl⟩ := xln_spec hr
    have h : xlocA L _ (fun v => K _ L (v :: st) M nx cb sb) := h
    rcases xlocA_spec h with ⟨a, h1, h⟩ | ⟨h1, h⟩
    · exact XZ.go (fun hx hb hl k => lv_aload hx hb hd (hl.at h1) k) (hK _ _ _ _ _ _ _ h)
    · exact XZ.go (fun hx hb hl k => lv_aloadN hx hb hd (hl.at h1) k) (hK _ _ _ _ _ _ _ h)
  | istore_n n =>
    obtain ⟨rfl, rfl⟩ := xln_spec hr
    obtain ⟨x, r, rfl, h1, h⟩ := xI1_spec h
    exact xs_store1 h1 rfl (fun hx hb e k => x_istore_n hx hb hd e k) (hK _ _ _ _ _ _ _ h)
  | istore n =>
    obtain ⟨rfl, rfl⟩ := xln_spec hr
    obtain ⟨x, r, rfl, h1, h⟩ := xI1_spec h
    exact xs_store1 h1 rfl (fun hx hb e k => x_istore hx hb hd e k) (hK _ _ _ _ _ _ _ h)
  | astore_n n =>
    obtain ⟨rfl, rfl⟩ := xln_spec hr
    have h : xRv st (fun v r => n.val < L.length ∧ K (pc + 1) (L.set n.val (some v)) r M nx cb sb) := h
    rcases xRv_spec h with ⟨a, r, rfl, h1, h⟩ | ⟨r, rfl, h1, h⟩
    · exact xs_store1 h1 rfl (fun hx hb e k => x_astore_n hx hb hd e rfl k) (hK _ _ _ _ _ _ _ h)
    · exact xs_store1 h1 rfl (fun hx hb e k => x_astore_n hx hb hd e rfl k) (hK _ _ _ _ _ _ _ h)
  | astore n =>
    obtain ⟨rfl, rfl⟩ := xln_spec hr
    have h : xRv st (fun v r => n < L.length ∧ K (pc + 2) (L.set n (some v)) r M nx cb sb) := h
    rcases xRv_spec h with ⟨a, r, rfl, h1, h⟩ | ⟨r, rfl, h1, h⟩
    · exact xs_store1 h1 rfl (fun hx hb e k => x_astore hx hb hd e rfl k) (hK _ _ _ _ _ _ _ h)
    · exact xs_store1 h1 rfl (fun hx hb e k => x_astore hx hb hd e rfl k) (hK _ _ _ _ _ _ _ h)
  | iinc n v =>
    obtain ⟨rfl, rfl⟩ := xln_spec hr
    obtain ⟨x, h1, h⟩ := xlocI_spec h
    exact xs_iinc hd h1 (hK _ _ _ _ _ _ _ h)
  | iadd =>
    obtain ⟨rfl, rfl⟩ := xln_spec hr
    obtain ⟨x, y, r, rfl, h⟩ := xI2_spec h
    exact XZ.go (fun hx hb _ k => lv_iadd hx hb hd k) (hK _ _ _ _ _ _ _ h)
  | isub =>
    obtain ⟨rfl, rfl⟩ := xln_spec hr
    obtain ⟨x, y, r, rfl, h⟩ := xI2_spec h
    exact XZ.go (fun hx hb _ k => lv_isub hx hb hd k) (hK _ _ _ _ _ _ _ h)
  | imul =>
    obtain ⟨rfl, rfl⟩ := xln_spec hr
    obtain ⟨x, y, r, rfl, h⟩ := xI2_spec h
    exact XZ.go (fun hx hb _ k => lv_imul hx hb hd k) (hK _ _ _ _ _ _ _ h)
  | iand =>
    obtain ⟨rfl, rfl⟩ := xln_spec hr
    obtain ⟨x, y, r, rfl, h⟩ := xI2_spec h
    exact XZ.go (fun hx hb _ k => lv_iand hx hb hd k) (hK _ _ _ _ _ _ _ h)
  | ior =>
    obtain ⟨rfl, rfl⟩ := xln_spec hr
    obtain ⟨x, y, r, rfl, h⟩ := xI2_spec h
    exact XZ.go (fun hx hb _ k => lv_ior hx hb hd k) (hK _ _ _ _ _ _ _ h)
  | ixor =>
    obtain ⟨rfl, rfl⟩ := xln_spec hr
    obtain ⟨x, y, r, rfl, h⟩ := xI2_spec h
    exact XZ.go (fun hx hb _ k => lv_ixor hx hb hd k) (hK _ _ _ _ _ _ _ h)
  | ishl =>
    obtain ⟨rfl, rfl⟩ := xln_spec hr
    obtain ⟨x, y, r, rfl, h⟩ := xI2_spec h
    exact XZ.go (fun hx hb _ k => lv_ishl hx hb hd k) (hK _ _ _ _ _ _ _ h)
  | ishr =>
    obtain ⟨rfl, rfl⟩ := xln_spec hr
    obtain ⟨x, y, r, rfl, h⟩ := xI2_spec h
    exact XZ.go (fun hx hb _ k => lv_ishr hx hb hd k) (hK _ _ _ _ _ _ _ h)
  | iushr =>
    obtain ⟨rfl, rfl⟩ := xln_spec hr
    obtain ⟨x, y, r, rfl, h⟩ := xI2_spec h
    exact XZ.go (fun hx hb _ k => lv_iushr hx hb hd rfl k) (hK _ _ _ _ _ _ _ h)
  | idiv =>
    obtain ⟨rfl, rfl⟩ := xln_spec hr
    obtain ⟨x, y, r, rfl, h1, h⟩ := xI2_spec h
    exact XZ.go (fun hx hb _ k => lv_idiv hx hb hd h1 k) (hK _ _ _ _ _ _ _ h)
  | irem =>
    obtain ⟨rfl, rfl⟩ := xln_spec hr
    obtain ⟨x, y, r, rfl, h1, h⟩ := xI2_spec h
    exact XZ.go (fun hx hb _ k => lv_irem hx hb hd h1 k) (hK _ _ _ _ _ _ _ h)
  | ineg =>
    obtain ⟨rfl, rfl⟩ := xln_spec hr
    obtain ⟨x, r, rfl, h⟩ := xI1_spec h
    exact XZ.go (fun hx hb _ k => lv_ineg hx hb hd k) (hK _ _ _ _ _ _ _ h)
  | i2b =>
    obtain ⟨rfl, rfl⟩ := xln_spec hr
    obtain ⟨x, r, rfl, h⟩ := xI1_spec h
    exact XZ.go (fun hx hb _ k => lv_i2b hx hb hd rfl k) (hK _ _ _ _ _ _ _ h)
  | i2s =>
    obtain ⟨rfl, rfl⟩ := xln_spec hr
    obtain ⟨x, r, rfl, h⟩ := xI1_spec h
    exact XZ.go (fun hx hb _ k => lv_i2s hx hb hd rfl k) (hK _ _ _ _ _ _ _ h)
  | i2c =>
    obtain ⟨rfl, rfl⟩ := xln_spec hr
    obtain ⟨x, r, rfl, h⟩ := xI1_spec h
    exact XZ.go (fun hx hb _ k => lv_i2c hx hb hd rfl k) (hK _ _ _ _ _ _ _ h)
  | dup =>
    obtain ⟨rfl, rfl⟩ := xln_spec hr
    obtain ⟨v, r, rfl, h1, h⟩ := xV1_spec h
    exact XZ.go (fun hx hb _ k => lv_dup hx hb hd h1 k) (hK _ _ _ _ _ _ _ h)
  | pop =>
    obtain ⟨rfl, rfl⟩ := xln_spec hr
    obtain ⟨v, r, rfl, h1, h⟩ := xV1_spec h
    exact XZ.go (fun hx hb _ k => lv_pop hx hb hd h1 k) (hK _ _ _ _ _ _ _ h)
  | dup_x1 =>
    obtain ⟨rfl, rfl⟩ := xln_spec hr
    obtain ⟨v, w, r, rfl, h1, h2, h⟩ := xV2_spec h
    exact XZ.go (fun hx hb _ k => lv_dup_x1 hx hb hd h1 h2 k) (hK _ _ _ _ _ _ _ h)
  | dup_x2 =>
    obtain ⟨rfl, rfl⟩ := xln_spec hr
    obtain ⟨v, w, u, r, rfl, h1, h2, h3, h⟩ := xV3_spec h
    exact XZ.go (fun hx hb _ k => lv_dup_x2 hx hb hd h1 h2 h3 k) (hK _ _ _ _ _ _ _ h)
  | dup2 =>
    obtain ⟨rfl, rfl⟩ := xln_spec hr
    obtain ⟨v, w, r, rfl, h1, h2, h⟩ := xV2_spec h
    exact XZ.go (fun hx hb _ k => lv_dup2_11 hx hb hd h1 h2 k) (hK _ _ _ _ _ _ _ h)
  | ifCond cond off =>
    cases cond with
    | eq =>
      obtain ⟨rfl, ht2, rfl⟩ := xlt_spec hr
      obtain ⟨x, r, rfl, h⟩ := xI1_spec h
      have h := xif h
      exact XZ.br inferInstance (fun hx hb k1 k2 => lv_if_eq hx hb hd ht2 k1 k2) (fun z => hK _ _ _ _ _ _ _ (h.1 z)) (fun z => hK _ _ _ _ _ _ _ (h.2 z))
    | ne =>
      obtain ⟨rfl, ht2, rfl⟩ := xlt_spec hr
      obtain ⟨x, r, rfl, h⟩ := xI1_spec h
      have h := xif h
      exact XZ.br inferInstance (fun hx hb k1 k2 => lv_if_ne hx hb hd ht2 k2 k1) (fun z => hK _ _ _ _ _ _ _ (h.1 z)) (fun z => hK _ _ _ _ _ _ _ (h.2 z))
    | lt =>
      obtain ⟨rfl, ht2, rfl⟩ := xlt_spec hr
      obtain ⟨x, r, rfl, h⟩ := xI1_spec h
      have h := xif h
      exact XZ.br inferInstance (fun hx hb k1 k2 => lv_if_lt hx hb hd ht2 k1 k2) (fun z => hK _ _ _ _ _ _ _ (h.1 z)) (fun z => hK _ _ _ _ _ _ _ (h.2 z))
    | ge =>
      obtain ⟨rfl, ht2, rfl⟩ := xlt_spec hr
      obtain ⟨x, r, rfl, h⟩ := xI1_spec h
      have h := xif h
      exact XZ.br inferInstance (fun hx hb k1 k2 => lv_if_ge hx hb hd ht2 k1 k2) (fun z => hK _ _ _ _ _ _ _ (h.1 z)) (fun z => hK _ _ _ _ _ _ _ (h.2 z))
    | gt =>
      obtain ⟨rfl, ht2, rfl⟩ := xlt_spec hr
      obtain ⟨x, r, rfl, h⟩ := xI1_spec h
      have h := xif h
      exact XZ.br inferInstance (fun hx hb k1 k2 => lv_if_gt hx hb hd ht2 k1 k2) (fun z => hK _ _ _ _ _ _ _ (h.1 z)) (fun z => hK _ _ _ _ _ _ _ (h.2 z))
    | le =>
      obtain ⟨rfl, ht2, rfl⟩ := xlt_spec hr
      obtain ⟨x, r, rfl, h⟩ := xI1_spec h
      have h := xif h
      exact XZ.br inferInstance (fun hx hb k1 k2 => lv_if_le hx hb hd ht2 k1 k2) (fun z => hK _ _ _ _ _ _ _ (h.1 z)) (fun z => hK _ _ _ _ _ _ _ (h.2 z))
  | if_icmp cond off =>
    cases cond with
    | eq =>
      obtain ⟨rfl, ht2, rfl⟩ := xlt_spec hr
      obtain ⟨x, y, r, rfl, h⟩ := xI2_spec h
      have h := xif h
      exact XZ.br inferInstance (fun hx hb k1 k2 => lv_icmp_eq hx hb hd ht2 k1 k2) (fun z => hK _ _ _ _ _ _ _ (h.1 z)) (fun z => hK _ _ _ _ _ _ _ (h.2 z))
    | ne =>
      obtain ⟨rfl, ht2, rfl⟩ := xlt_spec hr
      obtain ⟨x, y, r, rfl, h⟩ := xI2_spec h
      have h := xif h
      exact XZ.br inferInstance (fun hx hb k1 k2 => lv_icmp_ne hx hb hd ht2 k2 k1) (fun z => hK _ _ _ _ _ _ _ (h.1 z)) (fun z => hK _ _ _ _ _ _ _ (h.2 z))
    | lt =>
      obtain ⟨rfl, ht2, rfl⟩ := xlt_spec hr
      obtain ⟨x, y, r, rfl, h⟩ := xI2_spec h
      have h := xif h
      exact XZ.br inferInstance (fun hx hb k1 k2 => lv_icmp_lt hx hb hd ht2 k1 k2) (fun z => hK _ _ _ _ _ _ _ (h.1 z)) (fun z => hK _ _ _ _ _ _ _ (h.2 z))
    | ge =>
      obtain ⟨rfl, ht2, rfl⟩ := xlt_spec hr
      obtain ⟨x, y, r, rfl, h⟩ := xI2_spec h
      have h := xif h
      exact XZ.br inferInstance (fun hx hb k1 k2 => lv_icmp_ge hx hb hd ht2 k1 k2) (fun z => hK _ _ _ _ _ _ _ (h.1 z)) (fun z => hK _ _ _ _ _ _ _ (h.2 z))
    | gt =>
      obtain ⟨rfl, ht2, rfl⟩ := xlt_spec hr
      obtain ⟨x, y, r, rfl, h⟩ := xI2_spec h
      have h := xif h
      exact XZ.br inferInstance (fun hx hb k1 k2 => lv_icmp_gt hx hb hd ht2 k1 k2) (fun z => hK _ _ _ _ _ _ _ (h.1 z)) (fun z => hK _ _ _ _ _ _ _ (h.2 z))
    | le =>
      obtain ⟨rfl, ht2, rfl⟩ := xlt_spec hr
      obtain ⟨x, y, r, rfl, h⟩ := xI2_spec h
      have h := xif h
      exact XZ.br inferInstance (fun hx hb k1 k2 => lv_icmp_le hx hb hd ht2 k1 k2) (fun z => hK _ _ _ _ _ _ _ (h.1 z)) (fun z => hK _ _ _ _ _ _ _ (h.2 z))
  | ifnull off =>
    obtain ⟨rfl, ht2, rfl⟩ := xlt_spec hr
    have h : xR1 st (fun o r => if o = none then K (xt pc off) L r M nx cb sb else K (pc + 3) L r M nx cb sb) := h
    rcases xR1_spec h with ⟨a, r, rfl, h9⟩ | ⟨r, rfl, h9⟩
    · rw [if_neg (by exact fun z => nomatch z)] at h9
      exact XZ.go (fun hx hb _ k => lv_ifnull hx hb hd k) (hK _ _ _ _ _ _ _ h9)
    · rw [if_pos rfl] at h9
      exact XZ.go (fun hx hb _ k => lv_ifnullN hx hb hd ht2 k) (hK _ _ _ _ _ _ _ h9)
  | ifnonnull off =>
    obtain ⟨rfl, ht2, rfl⟩ := xlt_spec hr
    have h : xR1 st (fun o r => if o = none then K (pc + 3) L r M nx cb sb else K (xt pc off) L r M nx cb sb) := h
    rcases xR1_spec h with ⟨a, r, rfl, h9⟩ | ⟨r, rfl, h9⟩
    · rw [if_neg (by exact fun z => nomatch z)] at h9
      exact XZ.go (fun hx hb _ k => lv_ifnonnull hx hb hd ht2 k) (hK _ _ _ _ _ _ _ h9)
    · rw [if_pos rfl] at h9
      exact XZ.go (fun hx hb _ k => lv_ifnonnullN hx hb hd k) (hK _ _ _ _ _ _ _ h9)
  | goto off =>
    obtain ⟨rfl, ht2, rfl⟩ := xlt_spec hr
    exact XZ.go (fun hx hb _ k => lv_goto hx hb hd ht2 k) (hK _ _ _ _ _ _ _ h)
  | if_acmp cond off =>
    cases cond with
    | eq =>
      obtain ⟨rfl, ht2, rfl⟩ := xlt_spec hr
      have h : xR1 st (fun y s => xR1 s fun x r => if x = y then K (xt pc off) L r M nx cb sb else K (pc + 3) L r M nx cb sb) := h
      obtain ⟨y, s, rfl, h8⟩ := xR1_rf h
      obtain ⟨x, r, rfl, h9⟩ := xR1_rf h8
      have h9 := xif h9
      exact XZ.br inferInstance (fun hx hb k1 k2 => lv_acmp_eq hx hb hd ht2 k1 k2) (fun z => hK _ _ _ _ _ _ _ (h9.1 z)) (fun z => hK _ _ _ _ _ _ _ (h9.2 z))
    | ne =>
      obtain ⟨rfl, ht2, rfl⟩ := xlt_spec hr
      have h : xR1 st (fun y s => xR1 s fun x r => if x = y then K (pc + 3) L r M nx cb sb else K (xt pc off) L r M nx cb sb) := h
      obtain ⟨y, s, rfl, h8⟩ := xR1_rf h
      obtain ⟨x, r, rfl, h9⟩ := xR1_rf h8
      have h9 := xif h9
      exact XZ.br inferInstance (fun hx hb k1 k2 => lv_acmp_ne hx hb hd ht2 k2 k1) (fun z => hK _ _ _ _ _ _ _ (h9.1 z)) (fun z => hK _ _ _ _ _ _ _ (h9.2 z))
  | tableswitch d lo hi offs =>
    exact xs_table hK hd hr h
  | newarray at' =>
    cases at' with
    | int =>
      obtain ⟨rfl, rfl⟩ := xln_spec hr
      exact xs_newarray hd ⟨rfl, by decide⟩ hK h
    | byte =>
      obtain ⟨rfl, rfl⟩ := xln_spec hr
      exact xs_newarray hd ⟨rfl, by decide⟩ hK h
    | boolean =>
      obtain ⟨rfl, rfl⟩ := xln_spec hr
      exact xs_newarray hd ⟨rfl, by decide⟩ hK h
    | char =>
      obtain ⟨rfl, rfl⟩ := xln_spec hr
      exact xs_newarray hd ⟨rfl, by decide⟩ hK h
    | _ => cases hr
  | arraylength =>
    obtain ⟨rfl, rfl⟩ := xln_spec hr
    obtain ⟨a, r, rfl, h⟩ := xA1_spec h
    obtain ⟨t, n, f, h1, h⟩ := xarr_spec h
    exact xs_alen hd h1 (hK _ _ _ _ _ _ _ h)
  | iaload =>
    obtain ⟨rfl, rfl⟩ := xln_spec hr
    obtain ⟨j, a, r, rfl, h⟩ := xIA_spec h
    obtain ⟨t, n, f, h1, ⟨h2, h3⟩, h4, h5, h⟩ := xarr_spec h
    exact xs_iaload hd h1 h2 h3 h4 h5 (hK _ _ _ _ _ _ _ h)
  | baload =>
    obtain ⟨rfl, rfl⟩ := xln_spec hr
    obtain ⟨j, a, r, rfl, h⟩ := xIA_spec h
    obtain ⟨t, n, f, h1, ⟨h2, h3⟩, h4, h5, h⟩ := xarr_spec h
    exact xs_baload hd h1 h2 h3 h4 h5 (hK _ _ _ _ _ _ _ h)
  | caload =>
    obtain ⟨rfl, rfl⟩ := xln_spec hr
    obtain ⟨j, a, r, rfl, h⟩ := xIA_spec h
    obtain ⟨t, n, f, h1, ⟨h2, h3⟩, h4, h5, h⟩ := xarr_spec h
    exact xs_caload hd h1 h2 h3 h4 h5 (hK _ _ _ _ _ _ _ h)
  | aaload =>
    obtain ⟨rfl, rfl⟩ := xln_spec hr
    obtain ⟨j, a, r, rfl, h⟩ := xIA_spec h
    obtain ⟨t, n, f, h1, ⟨h2, h3⟩, h4, h5, h⟩ := xarr_spec h
    exact xs_aaload hd h1 h2 h3 h4 h5 (hK _ _ _ _ _ _ _ h)
  | iastore =>
    obtain ⟨rfl, rfl⟩ := xln_spec hr
    obtain ⟨x, j, a, r, rfl, h0, h⟩ := xIIA_spec h
    obtain ⟨t, n, f, h1, ⟨h2, h3⟩, h4, h5, h⟩ := xarr_spec h
    exact xs_iastore hd h0 h1 h2 h3 h4 h5 (hK _ _ _ _ _ _ _ h)
  | bastore =>
    obtain ⟨rfl, rfl⟩ := xln_spec hr
    obtain ⟨x, j, a, r, rfl, h0, h⟩ := xIIA_spec h
    obtain ⟨t, n, f, h1, ⟨h2, h3⟩, h4, h5, h⟩ := xarr_spec h
    exact xs_bastore hd h0 h1 h2 h3 h4 h5 (hK _ _ _ _ _ _ _ h)
  | castore =>
    obtain ⟨rfl, rfl⟩ := xln_spec hr
    obtain ⟨x, j, a, r, rfl, h0, h⟩ := xIIA_spec h
    obtain ⟨t, n, f, h1, ⟨h2, h3⟩, h4, h5, h⟩ := xarr_spec h
    exact xs_castore hd h0 h1 h2 h3 h4 h5 (hK _ _ _ _ _ _ _ h)
  | aastore =>
    obtain ⟨rfl, rfl⟩ := xln_spec hr
    obtain ⟨v, j, a, r, rfl, h0, h⟩ := xVIA_spec h
    obtain ⟨t, n, f, h1, h2, h4, h5, h6, h⟩ := xarr_spec h
    exact xs_aastore hd h0 h1 h2 h4 h5 h6 (hK _ _ _ _ _ _ _ h)
  | ireturn =>
    obtain ⟨t, h1, hr⟩ := Option.bind_eq_some_iff.mp hr
    obtain ⟨rfl, rfl⟩ := xln_spec hr
    obtain ⟨x, r, rfl, rfl, h2, h⟩ := xI1_spec h
    exact hR pc L (some (.int x)) M nx cb sb _ hd (Or.inl ⟨rfl, x, t, rfl, h1, h2⟩) h
  | areturn =>
    obtain ⟨h1, hr⟩ := xite_spec hr
    obtain ⟨rfl, rfl⟩ := xln_spec hr
    have h : xRv st (fun v r => r = [] ∧ Rf (some v) M nx) := h
    rcases xRv_spec h with ⟨a, r, rfl, rfl, h9⟩ | ⟨r, rfl, rfl, h9⟩
    · exact hR pc L (some (.ref a)) M nx cb sb _ hd (Or.inr (Or.inl ⟨rfl, h1, Or.inr ⟨a, rfl⟩⟩)) h9
    · exact hR pc L (some .null) M nx cb sb _ hd (Or.inr (Or.inl ⟨rfl, h1, Or.inl rfl⟩)) h9
  | return_ =>
    obtain ⟨h1, hr⟩ := xite_spec hr
    obtain ⟨rfl, rfl⟩ := xln_spec hr
    obtain ⟨rfl, h⟩ := h
    exact hR pc L none M nx cb sb _ hd (Or.inr (Or.inr ⟨rfl, h1, rfl⟩)) h
  | putfield idx =>
    obtain ⟨rfl, hr⟩ := xite_spec hr
    rcases xor2_spec hr with hr | hr
    · obtain ⟨ci, k, tc, rfl, hF, hWr⟩ := xlk_spec hr
      exact xs_put hK hd hF hWr (fun z => by cases z) h
    · obtain ⟨hin, hr⟩ := xite_spec hr
      obtain ⟨ci, k, tc, rfl, hF, hWr⟩ := xlk_spec hr
      exact xs_put hK hd hF hWr (fun _ => hin) h
  | getstatic idx =>
    obtain ⟨rfl, hr⟩ := xite_spec hr
    rcases xor2_spec hr with hr | hr
    · exact xs_getstatic hK hd hr h
    · exact xs_getstaticR hK hd hr h
  | checkcast idx =>
    obtain ⟨rfl, hr⟩ := xite_spec hr
    rcases xor2_spec hr with hr | hr
    · exact xs_checkcast hK hd hr h
    · exact xs_castA hK hd hr h
  | invokevirtual idx =>
    obtain ⟨rfl, hr⟩ := xite_spec hr
    rcases xor2_spec hr with hr | hr
    · exact xs_invokevirtual hK hKX hd hr h
    rcases xor2_spec hr with hr | hr
    · exact xs_override hK hKX hd hr h
    · exact xs_clone hK hd hr h
  | invokestatic idx =>
    obtain ⟨rfl, hr⟩ := xite_spec hr
    rcases xor2_spec hr with hr | hr
    · exact xs_invokestatic hK hKX hd hr h
    · exact xs_staticS hK hd hr h
  | invokespecial idx =>
    obtain ⟨rfl, hr⟩ := xite_spec hr
    rcases xor2_spec hr with hr | hr
    · exact xs_invokespecial hK hKX hd hr h
    · exact xs_super hK hKX hd hr h
  | getfield idx =>
    obtain ⟨rfl, hr⟩ := xite_spec hr
    exact xs_getfield hK hd hr h
  | new idx =>
    obtain ⟨rfl, hr⟩ := xite_spec hr
    exact xs_new hK hd hr h
  | anewarray idx =>
    obtain ⟨rfl, hr⟩ := xite_spec hr
    exact xs_anewarray hK hd hr h
  | ldc idx =>
    obtain ⟨rfl, hr⟩ := xite_spec hr
    exact xs_ldc hK hd hr h
  | instanceof idx =>
    obtain ⟨rfl, hr⟩ := xite_spec hr
    exact xs_instanceof hK hd hr h
  | _ => cases hr
end XS
