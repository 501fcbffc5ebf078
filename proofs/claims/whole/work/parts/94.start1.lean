/-! THE CLAIM OUT OF ONE WALK OF THE LAW'S BODY. Your part is whole_start (and what it stands on); all else here is the same for every law, but numbers. -/
def R_law : String := "ZoneNetLaw"
def lw_P (b : Addr) (xs : List Int32) (args : Array Value) (s : State) : Prop := args = #[.ref b] ∧ s.IntsAt b xs ∧ xs.length ≤ 2563 ∧ (Jvm.Cond.and given_1 narrow_1).before args s = true
def lw_Q (_ : Array Value) (s : State) (o : Outcome) (t : State) : Prop := o = .returned (some (.int 1)) ∧ Framed s o t [] 600000 7302250
def lw_Z (below : List Frame) (a : Array Value) (s : State) : State → Prop := fun t => ∃ o, t.status = .running ∧ Ended t below o ∧ lw_Q a s o t
/-- the law's own end, with 1 on the stack, nothing written that was there before, its room as the claim has it -/
theorem lw_ret {p : Program} {l : Launch} {e : Env} {s : State} {m : MethodId} {below : List Frame} {meth : Method} {c : Code} {b : Nat} (hx : p.tables.exec = Jvm.exec) (hb : c.code = code) (hr : meth.sig.returnType = ret) (hlocks : meth.locks = false) {pc : Nat} {H : Heap} {ls : Array Slot} (hdg : decode code pc = .ok (.ireturn, 1)) : W p l e room_1 s m #[Value.ref b] below meth c H [] 600000 7302250 (lw_Z below #[Value.ref b] s) (F0 m pc ls [.int 1]) := by
  intro T hT X
  obtain ⟨fs, hret, hrun, hended, hW, hframe⟩ := X.leave (v := some (.int 1)) (hlocks := hlocks) (fun h => by rw [hr] at h; cases h)
  have hmeth' : T.vm.method? m = some meth := X.method'
  refine ⟨T.setFrames fs, ?_, .returned (some (.int 1)), hrun, hended, rfl, ⟨_, rfl⟩, hW, hframe⟩
  jvm_step X.here [X.here.top, hx, hb, hdg, hmeth', hr, ret, narrow_b1]
  (try refine ⟨rfl, ?_⟩); (try refine ⟨rfl, ?_⟩)
  first | (intro acts; rw [hret _ acts rfl rfl rfl]) | rw [hret _ _ rfl rfl rfl]
  exact Steps.refl _
/-- what holds at the law's entry: the machine, the code, the tables' words (any of lw_tbl by 'hts w (by decide +kernel)'), the script of L ints xs at the cell b, what the Statement gives of the start (any of its parts by flat_of_before) -/
def lw_At (p : Program) (s : State) (m : MethodId) (meth : Method) (c : Code) (b L : Nat) (xs : Nat → Int32) : Prop :=
  p.tables.exec = Jvm.exec ∧ c.code = code ∧ meth.sig.returnType = ret ∧ c.maxLocals = 4 ∧ s.vm.findClass R_law = some m.cls ∧ (∀ w ∈ lw_tbl, w.before #[Value.ref b] s = true) ∧ va_X b L xs s s.heap ∧ b < s.heap.size ∧ meth.locks = false ∧ (Jvm.Cond.and given_1 narrow_1).before #[Value.ref b] s = true ∧ meth.name = "law"

theorem s_glob {l : Launch} {s : State} {b : Addr} (hts : ∀ w ∈ lw_tbl, w.before #[Value.ref b] s = true) (hgv : (Jvm.Cond.and given_1 narrow_1).before #[Value.ref b] s = true) :
    ∃ (D : va_G) (ad : Nat → Nat) (a0 p0 a1 p1 a2 p2 a3 p3 : Nat), xglob (l, s, D, ad) ∧ ClassAt s "java/lang/String" (D.1 4) ∧ ad 0 = a0 ∧ ad 1 = a1 ∧ ad 2 = a2 ∧ ad 3 = a3 ∧
      sSt s D a0 p0 5 [58, 64, 61, 126, 42] ∧ sSt s D a1 p1 0 [] ∧ sSt s D a2 p2 1 [42] ∧ sSt s D a3 p3 1 [61] := by
  have hs := flat_of_before _ hgv
  obtain ⟨D, hD⟩ := s_D hts
  have hK : u_Kn s "java/lang/String" xT4 2 (D.1 4) (D.2 4) := hD 4 ("java/lang/String", xT4, 2) rfl
  obtain ⟨a0, p0, e0, s0⟩ := s_str (tm := .string "ZoneNet$Names" 43) (N := 5) (g := [58, 64, 61, 126, 42]) hK (by decide) (hs _ (by decide +kernel)) (hs _ (by decide +kernel)) (hs _ (by decide +kernel)) (hs _ (by decide +kernel)) (fun j hj => by
    match j, hj with
    | 0, _ => exact hs _ (by decide +kernel)
    | 1, _ => exact hs _ (by decide +kernel)
    | 2, _ => exact hs _ (by decide +kernel)
    | 3, _ => exact hs _ (by decide +kernel)
    | 4, _ => exact hs _ (by decide +kernel)
    | j + 5, h => omega)
  obtain ⟨a1, p1, e1, s1⟩ := s_str (tm := .string "java/lang/StringLatin1" 151) (N := 0) (g := []) hK (by decide) (hs _ (by decide +kernel)) (hs _ (by decide +kernel)) (hs _ (by decide +kernel)) (hs _ (by decide +kernel)) (fun j hj => by omega)
  obtain ⟨a2, p2, e2, s2⟩ := s_str (tm := .string "ZoneNet$Pattern" 32) (N := 1) (g := [42]) hK (by decide) (hs _ (by decide +kernel)) (hs _ (by decide +kernel)) (hs _ (by decide +kernel)) (hs _ (by decide +kernel)) (fun j hj => by
    match j, hj with
    | 0, _ => exact hs _ (by decide +kernel)
    | j + 1, h => omega)
  obtain ⟨a3, p3, e3, s3⟩ := s_str (tm := .string "ZoneNet$Names" 25) (N := 1) (g := [61]) hK (by decide) (hs _ (by decide +kernel)) (hs _ (by decide +kernel)) (hs _ (by decide +kernel)) (hs _ (by decide +kernel)) (fun j hj => by
    match j, hj with
    | 0, _ => exact hs _ (by decide +kernel)
    | j + 1, h => omega)
  obtain ⟨a4, p4, e4, s4⟩ := s_str (D := D) (tm := .string "ZoneNet$Mesh" 83) (N := 1) (g := [42]) hK (by decide) (hs _ (by decide +kernel)) (hs _ (by decide +kernel)) (hs _ (by decide +kernel)) (hs _ (by decide +kernel)) (fun j hj => by
    match j, hj with
    | 0, _ => exact hs _ (by decide +kernel)
    | j + 1, h => omega)
  have e42 : a4 = a2 := by
    have h : (Cond.eq (.string "ZoneNet$Pattern" 32) (.string "ZoneNet$Mesh" 83)).before #[Value.ref b] s = true := hs _ (by decide +kernel)
    simp [Cond.before, Cond.holds, Cond.value, e2, e4] at h
    exact h.symm
  subst e42
  have hA : ∀ a : Nat, a < s.heap.size → ¬ (fun a => s.heap.size ≤ a) a := fun a h z => absurd h (Nat.not_lt.mpr z)
  refine ⟨D, fun i => [a0, a1, a4, a3].getD i 0, a0, p0, a1, p1, a4, p2, a3, p3, ⟨fun w hw => sNa_ok (sNa_all w hw) (hts w hw), hD, ?_, ?_, ?_⟩, hK.2, rfl, rfl, rfl, rfl, s0, s1, s2, s3⟩
  · refine List.forall_mem_cons.mpr ⟨vk_R.of (A := #[Value.ref b]) (hts _ (by decide +kernel)) e0, List.forall_mem_cons.mpr ⟨vk_R.of (A := #[Value.ref b]) (hts _ (by decide +kernel)) e1, List.forall_mem_cons.mpr ⟨vk_R.of (A := #[Value.ref b]) (hts _ (by decide +kernel)) e2, List.forall_mem_cons.mpr ⟨vk_R.of (A := #[Value.ref b]) (hts _ (by decide +kernel)) e4, List.forall_mem_cons.mpr ⟨vk_R.of (A := #[Value.ref b]) (hts _ (by decide +kernel)) e3, fun w h => absurd h List.not_mem_nil⟩⟩⟩⟩⟩
  · refine List.forall_mem_cons.mpr ⟨va_Zof (args := #[Value.ref b]) (hts _ (by decide +kernel)) (hts _ (by decide +kernel)) (va_eqt (hs _ (by decide +kernel))) hA, fun w h => absurd h List.not_mem_nil⟩
  · exact va_Zqof (args := #[Value.ref b]) (hts _ (by decide +kernel)) (hts _ (by decide +kernel)) (hs _ (by decide +kernel)) hA
theorem s_ch : ∀ n, n < 128 → rCh (nI n) := fun n h => ⟨n, h, rfl⟩
/-- from the entry, for every script of at most 2563 ints, the law comes to its end with true -/
theorem whole_start {p : Program} {e : Env} {s : State} {m : MethodId} {below : List Frame} {meth : Method} {c : Code} (l : Launch) {b L : Nat} {xs : Nat → Int32} (hL : L ≤ 2563) (C0 : lw_At p s m meth c b L xs) : W p l e room_1 s m #[Value.ref b] below meth c s.heap [] 0 0 (lw_Z below #[Value.ref b] s) (entryFrame m ([Value.ref b] : List Value).toArray 4) := by
  obtain ⟨hx, hcode, hret, hml, hfc, hts, hX, hb, hlk, hgv, hnm⟩ := C0
  obtain ⟨D, ad, a0, p0, a1, p1, a2, p2, a3, p3, g, hK, d0, d1, d2, d3, s0, s1, s2, s3⟩ := s_glob (l := l) hts hgv
  have ha : ∀ q ∈ [a0, a1, a2, a3], ∃ p N g, sSt s D q p N g := List.forall_mem_cons.mpr ⟨⟨_, _, _, s0⟩, List.forall_mem_cons.mpr ⟨⟨_, _, _, s1⟩, List.forall_mem_cons.mpr ⟨⟨_, _, _, s2⟩, List.forall_mem_cons.mpr ⟨⟨_, _, _, s3⟩, fun w h => absurd h List.not_mem_nil⟩⟩⟩⟩
  have hp : ∀ q ∈ [p0, p1, p2, p3], ∃ a N g, sSt s D a q N g := List.forall_mem_cons.mpr ⟨⟨_, _, _, s0⟩, List.forall_mem_cons.mpr ⟨⟨_, _, _, s1⟩, List.forall_mem_cons.mpr ⟨⟨_, _, _, s2⟩, List.forall_mem_cons.mpr ⟨⟨_, _, _, s3⟩, fun w h => absurd h List.not_mem_nil⟩⟩⟩⟩
  have hr : xrep (l, s, D, ad) (sM s D b L xs [a0, a1, a2, a3] [p0, p1, p2, p3]) s.heap := s_rep hX ha hp
  have hn : nX (l, s, D, ad) (sM s D b L xs [a0, a1, a2, a3] [p0, p1, p2, p3]) := by
    refine ⟨⟨p0, sF s p0, ?_, fun x _ => s_ix (s0.f (by decide)) (s0.f (by decide)) (s0.f (by decide)) (s0.f (by decide)) (s0.f (by decide)) x, ?_, s0.lt.2⟩, ⟨p1, sF s p1, ?_, ?_, s1.lt.2⟩, ⟨p2, sF s p2, ?_, s2.f (by decide), ?_, s2.lt.2⟩, p3, sF s p3, ?_, s3.f (by decide), ?_, s3.lt.2⟩
    · show jS _ (ad 0) _ _ _
      rw [d0]
      refine s_js hK hX ha s0 (by simp) (by simp) (by decide) (fun k hk => ?_)
      match k, hk with
      | 0, _ => exact s_ch 58 (by decide)
      | 1, _ => exact s_ch 64 (by decide)
      | 2, _ => exact s_ch 61 (by decide)
      | 3, _ => exact s_ch 126 (by decide)
      | 4, _ => exact s_ch 42 (by decide)
      | k + 5, h => omega
    · show ad 0 < s.heap.size
      rw [d0]; exact s0.lt.1
    · show jS _ (ad 1) _ _ _
      rw [d1]
      exact s_js hK hX ha s1 (by simp) (by simp) (by decide) (fun k hk => by omega)
    · show ad 1 < s.heap.size
      rw [d1]; exact s1.lt.1
    · show jS _ (ad 2) _ _ _
      rw [d2]
      refine s_js hK hX ha s2 (by simp) (by simp) (by decide) (fun k hk => ?_)
      match k, hk with
      | 0, _ => exact s_ch 42 (by decide)
      | k + 1, h => omega
    · show ad 2 < s.heap.size
      rw [d2]; exact s2.lt.1
    · show jS _ (ad 3) _ _ _
      rw [d3]
      refine s_js hK hX ha s3 (by simp) (by simp) (by decide) (fun k hk => ?_)
      match k, hk with
      | 0, _ => exact s_ch 61 (by decide)
      | k + 1, h => omega
    · show ad 3 < s.heap.size
      rw [d3]; exact s3.lt.1
  have hMb : sM s D b L xs [a0, a1, a2, a3] [p0, p1, p2, p3] b = some (.inr (0, L, fun k => .int (xs k))) := by
    unfold sM
    rw [if_pos rfl]
  have X := lc0 (E := (l, s, D, ad)) (b := b) (L := L) (xs := xs) (Q := fun v _ _ => v = some (.int 1)) (c := s.heap.size) hL (Nat.le_refl _) hn ⟨hMb, hb⟩ (fun _ _ => rfl)
  have hcat : ∀ v ∈ [Value.ref b], v.category = 1 := fun v hv => by
    rw [List.mem_singleton] at hv
    subst hv
    rfl
  have hl := lv_entry [Value.ref b] (n := 4) (by rw [xsl _ hcat]; show 1 ≤ 4; decide)
  rw [lg_entry_eq]
  have Y := X g p e s m #[Value.ref b] below meth c s.heap [] 0 0 ((lg_sl [Value.ref b] ++ List.replicate (4 - (lg_sl [Value.ref b]).length) Slot.unset).toArray) ⟨hx, hcode, hml, hret, hlk, hfc, hnm, State.WarmedH.refl s⟩ hr rfl ⟨⟨hl.1, hl.2.1, fun q hq => ?_⟩, fun k w hw => ?_⟩ rfl (by decide +kernel) (by decide +kernel) (fun q h => by cases h)
  · intro T hT S
    obtain ⟨t, h1, o, h2, h3, ⟨v, M', rfl, h5, rfl⟩, J, hF, hJ⟩ := Y T hT S
    exact ⟨t, h1, _, h2, h3, rfl, ⟨_, rfl⟩, hF.2.1, s_free hF.2.2 hJ⟩
  · obtain ⟨k, w⟩ := q
    rw [xlv_mem] at hq
    match k, hq with
    | 0, hq =>
      cases hq
      exact hl.2.2 (0, .ref b) (by simp [lv_args])
    | 1, hq => cases hq
    | 2, hq => cases hq
    | 3, hq => cases hq
    | k + 4, hq => cases hq
  · match k, hw with
    | 0, hw => cases hw; rfl
    | 1, hw => cases hw
    | 2, hw => cases hw
    | 3, hw => cases hw
    | k + 4, hw => cases hw
set_option maxHeartbeats 4000000 in
theorem lw_walk (l : Launch) (b : Addr) (xs : List Int32) : MetFree l x (headSpec (Jvm.Cond.code x code maxLocals ret :: tables_1) room_1) (lw_P b xs) (fun _ _ _ _ _ => True) lw_Q := by
  refine MetFree.of_bodyS (code := code) (maxLocals := maxLocals) (ret := ret) (by decide) ?_ ?_
  · intro args s m h hn
    obtain ⟨meth, c, h1, h2, h3, h4, h5, h6, -, -⟩ := Cond.code_spec hn (atoms_spec (ws := Jvm.Cond.code x code maxLocals ret :: tables_1) h _ List.mem_cons_self)
    exact ⟨meth, c, h1, h2, h3, h4, h5, h6⟩
  · intro p e s m args below meth c s₁ B hml0 hP _
    obtain ⟨rfl, hx, hbd, hgv⟩ := hP
    obtain ⟨scr, harrAt, hlist, hof, hsmall⟩ := hx
    obtain ⟨hcb, hkn, -, -⟩ := State.arrayAt?_spec harrAt
    have hown : s.vm.findClass R_law = some m.cls := findClass_of_methodNamed B.named
    have hts0 : ∀ c ∈ (Jvm.Cond.code x code maxLocals ret :: tables_1), c.before #[Value.ref b] s = true := atoms_spec (ws := Jvm.Cond.code x code maxLocals ret :: tables_1) B.pre
    have hts : ∀ w ∈ lw_tbl, w.before #[Value.ref b] s = true := k2_hts_sels lw_privs (fun w hw => hts0 w (List.mem_cons_of_mem _ hw)) lw_privs_ok
    have hml : c.maxLocals = 4 := B.maxLocals_eq (hts0 _ List.mem_cons_self)
    have X₀ : Stand p l e room_1 s m #[Value.ref b] below meth c s₁ [] 0 0 := Stand.of_body B
    have hh0 : s₁.heap = s.heap := by rw [B.state]; rfl
    have hsz : scr.slots.size = xs.length := by rw [← Array.length_toList, hlist, List.length_map]
    have hval : ∀ j : Nat, j < xs.length → scr.slots[j]? = some (.int (xs.getD j 0)) := fun j hj => by
      rw [← Array.getElem?_toList, hlist]
      simp [hj]
    have hbl : b < s.heap.size := (Array.getElem?_eq_some_iff.mp hcb).1
    have hX : va_X b xs.length (fun j => xs.getD j 0) s s.heap := ⟨scr, hcb, hof, hkn, hsz, hval⟩
    have K : W p l e room_1 s m #[Value.ref b] below meth c s₁.heap [] 0 0 (lw_Z below #[Value.ref b] s) (entryFrame m ([Value.ref b] : List Value).toArray 4) := by
      rw [hh0]
      exact whole_start l hbd ⟨B.exec, B.bytes, B.returns, hml, hown, hts, hX, hbl, B.notSynchronized, hgv, (name_of_methodNamed B.named B.method).1⟩
    obtain ⟨t, a1, o, b1, b2, b3⟩ := K s₁ rfl X₀
    exact ⟨t, o, a1, b1, b2, b3⟩
theorem lw_pre_spec {args : Array Value} {s : State} (h : (Jvm.Cond.and given_1 narrow_1).before args s = true) (hr : rest_1_c.before args s = true) : ∃ (b : Addr) (xs : List Int32), lw_P b xs args s := by
  have hs := flat_of_before _ h
  have hq := flat_of_before _ hr
  have hc : (Cond.count 1).before args s = true := hs _ (by decide +kernel)
  have harr : (Cond.arrayOf (.arg 0) .int).before args s = true := hs _ (by decide +kernel)
  have hle : (Cond.le (.length (.arg 0)) (.int 2563)).before args s = true := hs _ (by decide +kernel)
  have hlen : (Cond.isInt (.length (.arg 0))).before args s = true := hq _ (by decide +kernel)
  have hall : (Cond.all (.arg 0) (.isInt (.elem (.arg 0) (.index 0)))).before args s = true := hq _ (by decide +kernel)
  obtain ⟨b, xs, hb, hx⟩ := State.ints_of_pre rfl harr hlen hall
  have hsm : xs.length < 2 ^ 31 := hx.choose_spec.2.2.2
  have hev : (Term.length (.arg 0)).eval args s none [] s = some (.int xs.length.toInt32) := hx.length_eval hb
  have hv := Cond.le_ints hev (show (Term.int 2563).eval args s none [] s = some (.int 2563) from rfl)
  have hd : xs.length.toInt32 ≤ 2563 := by
    simpa [Cond.before, Cond.holds, hv] using hle
  have hN : xs.length ≤ 2563 := (Int32.ofNat_le_ofNat hsm (by decide)).mp (show Int32.ofNat xs.length ≤ Int32.ofNat 2563 from hd)
  exact ⟨b, xs, Cond.one_arg hc (show args[0]? = some (.ref b) from hb), hx, hN, h⟩
theorem lw_comes (l : Launch) : Comes l x (Jvm.Cond.code x code maxLocals ret :: tables_1) room_1 (fun tb e args s => Calls_1 tb e args s ∧ rest_1 tb e args s ∧ Pre_1 tb e args s)
    (fun _ _ args s o t => lw_Q args s o t) := by
  intro p e ha hc hk s m args below hf hfit hheap happ hpre
  obtain ⟨b, xs, hP⟩ := lw_pre_spec hpre.2.2 hpre.2.1
  obtain ⟨k, o, h1, h2, h3, hQ⟩ := lw_walk l b xs p e ha hc hk s m args below hf ((Spec.applies_iff_loose hf).mp happ).1 hP trivial
  exact ⟨k, o, h1, h2, h3, hQ⟩
theorem lw_frame {s t : State} {o : Outcome} {args : Array Value} (h : Framed s o t [] 600000 7302250) :
    Framed s o t (fieldLocs frame_1_writes args s ++ arrayLocs frame_1_arrays args s ++ staticLocs frame_1_statics s) 600000 7302250 := h
theorem lw_limb (L : Cond) (hL : ∀ (args : Array Value) (s t : State), L.after args s (.returned (some (.int 1))) t = true) :
    ArmFor flags0 classFile x code maxLocals ret World_1 tables_1 room_1 Calls_1 rest_1 Pre_1
      (fun tb e a s o t => postC L tb e a s o t ∧ Framed s o t (fieldLocs frame_1_writes a s ++ arrayLocs frame_1_arrays a s ++ staticLocs frame_1_statics s) 600000 7302250) := by
  intro l _ _ _ p e ha hc hk s m args below hf hfit hheap happ hpre
  obtain ⟨k, o, h1, h2, h3, rfl, hF⟩ := lw_comes l p e ha hc hk s m args below hf hfit hheap happ hpre
  exact ⟨k, _, h1, h2, h3, hL args s _, lw_frame hF⟩
theorem i_vc : Claimed_1_1 ∧ Claimed_1_2 := ⟨lw_limb limb_1_1 (fun args s t => by simp [limb_1_1, Cond.after, Cond.holds, Cond.value]), lw_limb limb_1_2 (fun args s t => Cond.after_iff.mpr (by
  first | (rw [show limb_1_2 = Cond.eq .result (.int 1) from rfl, Cond.eq_ints (x := 1) (y := 1) rfl rfl]; simp; done) | (simp [limb_1_2, Cond.value, Term.eval]; done)))⟩
