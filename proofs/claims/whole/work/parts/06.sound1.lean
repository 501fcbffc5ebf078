/-- only a call that fits into the caller's room -/
def xlmOk (i : Nat) (r : xI) : Bool := if r.1 = 73 then decide (1 ≤ xfr i) && decide (20 ≤ xlo i) else decide (xfr r.2.2.1 + 1 ≤ xfr i) && decide (8 + (xmax r.2.2.1 + 11) + xlo r.2.2.1 ≤ xlo i) && decide (r.2.2.2.1 + (if r.1 = 71 then 0 else 1) ≤ xmax r.2.2.1)
def xlm (i : Nat) (o : Option xI) : Option xI := o.bind fun r => if xlmOk i r = true then some r else none
/-- what needs a frame and some words alone -/
def xls (i : Nat) (o : Option xI) : Option xI := if 1 ≤ xfr i ∧ 40 ≤ xlo i then o else none
theorem xlmOk_spec {i : Nat} {r : xI} (h : xlmOk i r = true) (h73 : r.1 ≠ 73) : xfr r.2.2.1 + 1 ≤ xfr i ∧ 8 + (xmax r.2.2.1 + 11) + xlo r.2.2.1 ≤ xlo i ∧ r.2.2.2.1 + (if r.1 = 71 then 0 else 1) ≤ xmax r.2.2.1 := by
  unfold xlmOk at h
  rw [if_neg h73] at h
  simp only [Bool.and_eq_true, decide_eq_true_eq] at h
  exact ⟨h.1.1, h.1.2, h.2⟩
theorem xlmOk_obj {i : Nat} (h : xlmOk i (73, 0, 0, 0, 0, []) = true) : 1 ≤ xfr i ∧ 20 ≤ xlo i := by
  unfold xlmOk at h
  simpa using h
def xor2 (a b : Option xI) : Option xI := match a with
  | some r => some r
  | none => b
theorem xor2_spec {a b : Option xI} {r : xI} (h : xor2 a b = some r) : a = some r ∨ b = some r := by
  unfold xor2 at h
  split at h
  · exact Or.inl h
  · exact Or.inr h
/-- the row of an instruction -/
def xenc (i pc len : Nat) : Jvm.ClassFile.Instr → Option xI
  | .iconst n => xln len 1 (0, Int32.ofInt n, 0, 0, 0, [])
  | .bipush n => xln len 2 (0, (Int8.ofInt n).toInt32, 0, 0, 0, [])
  | .sipush n => xln len 3 (0, (Int16.ofInt n).toInt32, 0, 0, 0, [])
  | .iload_n k => xln len 1 (1, 0, k.val, 0, 0, [])
  | .iload j => xln len 2 (1, 0, j, 0, 0, [])
  | .aload_n k => xln len 1 (2, 0, k.val, 0, 0, [])
  | .aload j => xln len 2 (2, 0, j, 0, 0, [])
  | .istore_n k => xln len 1 (3, 0, k.val, 0, 0, [])
  | .istore j => xln len 2 (3, 0, j, 0, 0, [])
  | .astore_n k => xln len 1 (4, 0, k.val, 0, 0, [])
  | .astore j => xln len 2 (4, 0, j, 0, 0, [])
  | .iinc j n => xln len 3 (5, Int32.ofInt n, j, 0, 0, [])
  | .aconst_null => xln len 1 (6, 0, 0, 0, 0, [])
  | .iadd => xln len 1 (10, 0, 0, 0, 0, [])
  | .isub => xln len 1 (11, 0, 0, 0, 0, [])
  | .imul => xln len 1 (12, 0, 0, 0, 0, [])
  | .iand => xln len 1 (13, 0, 0, 0, 0, [])
  | .ior => xln len 1 (14, 0, 0, 0, 0, [])
  | .ixor => xln len 1 (15, 0, 0, 0, 0, [])
  | .ishl => xln len 1 (16, 0, 0, 0, 0, [])
  | .ishr => xln len 1 (17, 0, 0, 0, 0, [])
  | .iushr => xln len 1 (18, 0, 0, 0, 0, [])
  | .idiv => xln len 1 (19, 0, 0, 0, 0, [])
  | .irem => xln len 1 (20, 0, 0, 0, 0, [])
  | .ineg => xln len 1 (21, 0, 0, 0, 0, [])
  | .i2b => xln len 1 (22, 0, 0, 0, 0, [])
  | .i2s => xln len 1 (23, 0, 0, 0, 0, [])
  | .i2c => xln len 1 (24, 0, 0, 0, 0, [])
  | .dup => xln len 1 (25, 0, 0, 0, 0, [])
  | .pop => xln len 1 (26, 0, 0, 0, 0, [])
  | .dup_x1 => xln len 1 (27, 0, 0, 0, 0, [])
  | .dup_x2 => xln len 1 (28, 0, 0, 0, 0, [])
  | .dup2 => xln len 1 (29, 0, 0, 0, 0, [])
  | .ifCond .eq off => xlt len 3 pc off (30, 0, xt pc off, 0, 0, [])
  | .ifCond .ne off => xlt len 3 pc off (31, 0, xt pc off, 0, 0, [])
  | .ifCond .lt off => xlt len 3 pc off (32, 0, xt pc off, 0, 0, [])
  | .ifCond .ge off => xlt len 3 pc off (33, 0, xt pc off, 0, 0, [])
  | .ifCond .gt off => xlt len 3 pc off (34, 0, xt pc off, 0, 0, [])
  | .ifCond .le off => xlt len 3 pc off (35, 0, xt pc off, 0, 0, [])
  | .if_icmp .eq off => xlt len 3 pc off (36, 0, xt pc off, 0, 0, [])
  | .if_icmp .ne off => xlt len 3 pc off (37, 0, xt pc off, 0, 0, [])
  | .if_icmp .lt off => xlt len 3 pc off (38, 0, xt pc off, 0, 0, [])
  | .if_icmp .ge off => xlt len 3 pc off (39, 0, xt pc off, 0, 0, [])
  | .if_icmp .gt off => xlt len 3 pc off (40, 0, xt pc off, 0, 0, [])
  | .if_icmp .le off => xlt len 3 pc off (41, 0, xt pc off, 0, 0, [])
  | .ifnull off => xlt len 3 pc off (42, 0, xt pc off, 0, 0, [])
  | .ifnonnull off => xlt len 3 pc off (43, 0, xt pc off, 0, 0, [])
  | .if_acmp .eq off => xlt len 3 pc off (44, 0, xt pc off, 0, 0, [])
  | .if_acmp .ne off => xlt len 3 pc off (45, 0, xt pc off, 0, 0, [])
  | .goto off => xlt len 3 pc off (46, 0, xt pc off, 0, 0, [])
  | .tableswitch d lo hi offs => if xtsOk pc d lo hi offs then some (47, 0, xt pc d, 0, 0, xts pc lo offs.toList) else none
  | .newarray .int => xln len 2 (54, 0, 0, 0, 0, [])
  | .newarray .byte => xln len 2 (54, 0, 1, 0, 0, [])
  | .newarray .boolean => xln len 2 (54, 0, 2, 0, 0, [])
  | .newarray .char => xln len 2 (54, 0, 3, 0, 0, [])
  | .arraylength => xln len 1 (56, 0, 0, 0, 0, [])
  | .iaload => xln len 1 (57, 0, 0, 0, 0, [])
  | .baload => xln len 1 (57, 0, 1, 2, 0, [])
  | .caload => xln len 1 (57, 0, 3, 3, 0, [])
  | .aaload => xln len 1 (57, 0, 4, 1000, 0, [])
  | .iastore => xln len 1 (58, 0, 0, 0, 0, [])
  | .bastore => xln len 1 (58, 0, 1, 2, 0, [])
  | .castore => xln len 1 (58, 0, 3, 3, 0, [])
  | .aastore => xln len 1 (59, 0, 0, 0, 0, [])
  | .ireturn => (xtc (xret i)).bind fun t => xln len 1 (90, 0, t, 0, 0, [])
  | .areturn => if xretA (xret i) then xln len 1 (91, 0, 0, 0, 0, []) else none
  | .return_ => if xret i = none then xln len 1 (92, 0, 0, 0, 0, []) else none
  | .getfield idx => if len = 3 then xlk (xcn i) idx 50 else none
  | .putfield idx => if len = 3 then xor2 (xlk (xcn i) idx 51) (if (xy i).name = "<init>" then xlk (xcn i) idx 151 else none) else none
  | .getstatic idx => if len = 3 then xor2 (xlk (xcn i) idx 52) (xlk (xcn i) idx 152) else none
  | .new idx => if len = 3 then xlk (xcn i) idx 53 else none
  | .anewarray idx => if len = 3 then xlk (xcn i) idx 55 else none
  | .ldc idx => if len = 2 then xlk (xcn i) idx 60 else none
  | .instanceof idx => if len = 3 then xlk (xcn i) idx 61 else none
  | .checkcast idx => if len = 3 then xor2 (xlk (xcn i) idx 62) (xlk (xcn i) idx 162) else none
  | .invokevirtual idx => if len = 3 then xor2 (xlm i (xlk (xcn i) idx 70)) (xor2 (xlm i (xlk (xcn i) idx 170)) (xls i (xlk (xcn i) idx 180))) else none
  | .invokestatic idx => if len = 3 then xor2 (xlm i (xlk (xcn i) idx 71)) (xls i (xlk (xcn i) idx 171)) else none
  | .invokespecial idx => if len = 3 then xor2 (xlm i (xlk (xcn i) idx 72)) (xlm i (xlk (xcn i) idx 172)) else none
  | _ => none
/-! words of the tables, moved from the law's start to any later state -/
def xmov : Cond → Bool
  | .methodLinkNest _ _ _ _ => true
  | .fieldLinkNest _ _ _ _ _ _ => true
  | .arrayOver (.object _) => true
  | .castable _ _ => true
  | w => goodWord w
theorem xmoved {w : Cond} {s U : State} (hm : xmov w = true) (hW : s.WarmedH U.vm) (h : w.before #[] s = true) (a : Array Value) : w.before a U = true := by
  unfold xmov at hm
  split at hm
  · exact va_Nw.use rfl (va_Nw.warmM hW (va_Nw.of rfl h))
  · exact va_Nw.use rfl (va_Nw.warmF hW (va_Nw.of rfl h))
  · exact va_AO.use (va_AO.moved hW.alike (va_AO.of h))
  · exact va_Nw.use rfl (va_Nw.warmC hW (va_Nw.of rfl h))
  · exact word_at hW (good_of_word hm) h
theorem xword {E : xE} (g : xglob E) {w : Cond} (hw : w ∈ lw_tbl) (hm : xmov w = true) {s : State} (hW : E.2.1.WarmedH s.vm) (a : Array Value) : w.before a s = true := xmoved hm hW (g.1 w hw) a
theorem xargs : ∀ (As : List Value) (n k : Nat) (v : Value), (∀ w ∈ As, w.category = 1) → As[k]? = some v → (n + k, v) ∈ lv_args n As
  | [], n, k, v, _, h => by simp at h
  | w :: r, n, 0, v, hc, h => by
    simp at h
    subst h
    simp [lv_args]
  | w :: r, n, k + 1, v, hc, h => by
    have h1 := xargs r (n + 1) k v (fun q hq => hc q (List.mem_cons_of_mem _ hq)) (by simpa using h)
    have h2 := hc w List.mem_cons_self
    simp only [lv_args, h2]
    rw [show n + (k + 1) = n + 1 + k by omega]
    exact List.mem_cons_of_mem _ h1
theorem xsl (As : List Value) (hc : ∀ w ∈ As, w.category = 1) : (lg_sl As).length = As.length := by
  induction As with
  | nil => rfl
  | cons w r ih =>
    have h2 := hc w List.mem_cons_self
    have h3 := ih (fun q hq => hc q (List.mem_cons_of_mem _ hq))
    simp only [lg_sl] at h3 ⊢
    simp [h2, h3]
theorem xmet {E : xE} {j : Nat} {As : List Value} {M : xM} {nx : Nat} {Q : Option Value → xM → Nat → Prop} (g : xglob E) (h : XC E j As M nx Q) (hpl : plainName (xy j).cls = true) (hlen : As.length ≤ xmax j) (hcat : ∀ v ∈ As, v.category = 1) :
    Met E.1 (xy j) [.code (xy j) (xcode j) (xmax j) (xret j)] (xrm j) (fun a s => a = As.toArray ∧ E.2.1.WarmedH s.vm ∧ xrep E M s.heap ∧ s.heap.size = nx)
      (fun _ _ o t => ∃ (v : Option Value) (M' : xM), o = .returned v ∧ xrep E M' t.heap ∧ Q v M' t.heap.size) (xmc j) (xms j) (fun q => E.2.1.heap.size ≤ q) := by
  refine Met.ofW (cc := xcode j) (maxL := xmax j) (ret := xret j) hpl rfl ?_
  intro p e s m args below meth c s₁ B hml hv
  obtain ⟨rfl, hW, hr, hz⟩ := hv
  have hl := lv_entry As (n := xmax j) (by rw [xsl As hcat]; exact hlen)
  rw [lg_entry_eq]
  have hLn : (xentry As (xmax j)).length = xmax j := by
    unfold xentry
    rw [List.length_append, List.length_map, List.length_replicate]
    omega
  refine h g p e s m As.toArray below meth c s.heap [] 0 0 _ ⟨B.exec, B.bytes, hml, B.returns, B.notSynchronized, findClass_of_methodNamed B.named, (name_of_methodNamed B.named B.method).1, hW⟩ hr hz ⟨⟨by rw [hLn]; exact hl.1, hl.2.1, fun q hq => ?_⟩, fun k w hw => ?_⟩ hLn (by omega) (by omega) (fun q h => by cases h)
  · obtain ⟨k, w⟩ := q
    rw [xlv_mem] at hq
    unfold xentry at hq
    by_cases hk : k < As.length
    · rw [List.getElem?_append_left (by rw [List.length_map]; exact hk), List.getElem?_map] at hq
      have hq2 : As[k]? = some w := by
        cases hA : As[k]? with
        | none => rw [hA] at hq; cases hq
        | some u => rw [hA] at hq; cases hq; rfl
      have := hl.2.2 (0 + k, w) (xargs As 0 k w hcat hq2)
      simpa using this
    · rw [List.getElem?_append_right (by rw [List.length_map]; omega), List.getElem?_replicate] at hq
      split at hq
      · cases hq
      · cases hq
  · unfold xentry at hw
    by_cases hk : k < As.length
    · rw [List.getElem?_append_left (by rw [List.length_map]; exact hk), List.getElem?_map] at hw
      cases hA : As[k]? with
      | none => rw [hA] at hw; cases hw
      | some u =>
        rw [hA] at hw
        cases hw
        exact hcat w (List.mem_of_getElem? hA)
    · rw [List.getElem?_append_right (by rw [List.length_map]; omega), List.getElem?_replicate] at hw
      split at hw
      · cases hw
      · cases hw
theorem xarrc {t : Nat} (h : t < 4) : Cond.arrayClass (xaty t) ∈ lw_tbl := by
  rcases (show t = 0 ∨ t = 1 ∨ t = 2 ∨ t = 3 by omega) with rfl | rfl | rfl | rfl
  · exact xin 158 (by decide +kernel)
  · exact xin 65 (by decide +kernel)
  · exact xin 454 (by decide +kernel)
  · exact xin 1108 (by decide +kernel)
theorem xaty_small {t : Nat} (h : t < 4) (C : String) : xaty t ≠ .object C := by
  rcases (show t = 0 ∨ t = 1 ∨ t = 2 ∨ t = 3 by omega) with rfl | rfl | rfl | rfl <;> exact fun z => nomatch z
theorem xaty_def {t : Nat} (h : t < 4) : defaultValue (xaty t) = .int 0 := by
  rcases (show t = 0 ∨ t = 1 ∨ t = 2 ∨ t = 3 by omega) with rfl | rfl | rfl | rfl <;> rfl
theorem xbytes {t n : Nat} (h : t < 4) (hn : n ≤ 1000000) : n * componentBytes (xaty t) ≤ 536870912 := by
  have : componentBytes (xaty t) ≤ 4 := by
    rcases (show t = 0 ∨ t = 1 ∨ t = 2 ∨ t = 3 by omega) with rfl | rfl | rfl | rfl <;> decide
  have := Nat.mul_le_mul hn this
  omega
def xtab (i pc : Nat) : Option (xI × Nat) := match decode (xcode i) pc with
  | .ok q => (xenc i pc q.2 q.1).map (fun r => (r, q.2))
  | .error _ => none
theorem xtab_spec {i pc : Nat} {ro : xI × Nat} (h : xtab i pc = some ro) : ∃ ins, decode (xcode i) pc = .ok (ins, ro.2) ∧ xenc i pc ro.2 ins = some ro.1 := by
  unfold xtab at h
  split at h
  · next q hd =>
    obtain ⟨ins, len⟩ := q
    cases hr : xenc i pc len ins with
    | none => simp [hr] at h
    | some r =>
      simp [hr] at h
      subst h
      exact ⟨ins, hd, hr⟩
  · cases h
/-- what a return instruction gives back -/
def xretI (i : Nat) (ins : Jvm.ClassFile.Instr) (v : Option Value) : Prop :=
  (ins = .ireturn ∧ ∃ x t, v = some (.int x) ∧ xtc (xret i) = some t ∧ xfit t (.int x)) ∨ (ins = .areturn ∧ xretA (xret i) = true ∧ (v = some .null ∨ ∃ a, v = some (.ref a))) ∨ (ins = .return_ ∧ xret i = none ∧ v = none)
theorem xite_spec {c : Prop} [Decidable c] {o : Option xI} {r : xI} (h : (if c then o else none) = some r) : c ∧ o = some r := by
  by_cases z : c
  · rw [if_pos z] at h
    exact ⟨z, h⟩
  · rw [if_neg z] at h
    cases h
theorem xR1_rf {st : List Value} {P : Option Nat → List Value → Prop} (h : xR1 st P) : ∃ o r, st = va_rf o :: r ∧ P o r := by
  rcases xR1_spec h with ⟨a, r, rfl, h⟩ | ⟨r, rfl, h⟩
  · exact ⟨some a, r, rfl, h⟩
  · exact ⟨none, r, rfl, h⟩
section XW
variable {p : Program} {l : Launch} {e : Env} {R : Room} {s : State} {m : MethodId} {args : Array Value} {below : List Frame} {meth : Method} {c : Code} {H : Heap} {locs : List Loc} {cells slots : Nat} {Q : State → Prop}
variable {cc : ByteArray} {pc : Nat} {ls ls' : Array Slot} {rest : List Value}
theorem x_istore_n (hexec : p.tables.exec = Jvm.exec) (hb : c.code = cc) {k : Fin 4} {x : Int32} (hdg : decode cc pc = .ok (.istore_n k, 1)) (e' : storeLocals ls k.val (.int x) = some ls')
    (kk : W p l e R s m args below meth c H locs cells slots Q (F0 m (pc + 1) ls' rest)) : W p l e R s m args below meth c H locs cells slots Q (F0 m pc ls (.int x :: rest)) := by
  intro T hT X
  obtain ⟨t, a, b⟩ := kk T hT X
  refine ⟨t, ?_, b⟩
  jvm_step X.here [X.here.top, ↓top_set X.here.top, hexec, hb, hdg, e']
  exact a
theorem x_istore (hexec : p.tables.exec = Jvm.exec) (hb : c.code = cc) {k : Nat} {x : Int32} (hdg : decode cc pc = .ok (.istore k, 2)) (e' : storeLocals ls k (.int x) = some ls')
    (kk : W p l e R s m args below meth c H locs cells slots Q (F0 m (pc + 2) ls' rest)) : W p l e R s m args below meth c H locs cells slots Q (F0 m pc ls (.int x :: rest)) := by
  intro T hT X
  obtain ⟨t, a, b⟩ := kk T hT X
  refine ⟨t, ?_, b⟩
  jvm_step X.here [X.here.top, ↓top_set X.here.top, hexec, hb, hdg, e']
  exact a
theorem x_astore_n (hexec : p.tables.exec = Jvm.exec) (hb : c.code = cc) {k : Fin 4} {v : Value} (hdg : decode cc pc = .ok (.astore_n k, 1)) (e' : storeLocals ls k.val v = some ls') (hv : v.isRef = true)
    (kk : W p l e R s m args below meth c H locs cells slots Q (F0 m (pc + 1) ls' rest)) : W p l e R s m args below meth c H locs cells slots Q (F0 m pc ls (v :: rest)) := by
  intro T hT X
  obtain ⟨t, a, b⟩ := kk T hT X
  refine ⟨t, ?_, b⟩
  cases v <;> first | (cases hv; done) | (jvm_step X.here [X.here.top, ↓top_set X.here.top, hexec, hb, hdg, e', Value.isRef]; exact a)
theorem x_astore (hexec : p.tables.exec = Jvm.exec) (hb : c.code = cc) {k : Nat} {v : Value} (hdg : decode cc pc = .ok (.astore k, 2)) (e' : storeLocals ls k v = some ls') (hv : v.isRef = true)
    (kk : W p l e R s m args below meth c H locs cells slots Q (F0 m (pc + 2) ls' rest)) : W p l e R s m args below meth c H locs cells slots Q (F0 m pc ls (v :: rest)) := by
  intro T hT X
  obtain ⟨t, a, b⟩ := kk T hT X
  refine ⟨t, ?_, b⟩
  cases v <;> first | (cases hv; done) | (jvm_step X.here [X.here.top, ↓top_set X.here.top, hexec, hb, hdg, e', Value.isRef]; exact a)
theorem x_iinc (hexec : p.tables.exec = Jvm.exec) (hb : c.code = cc) {k : Nat} {n : Int} {x : Int32} (hdg : decode cc pc = .ok (.iinc k n, 3)) (hg : ls[k]? = some (.val (.int x))) (e' : storeLocals ls k (.int (x + Int32.ofInt n)) = some ls')
    (kk : W p l e R s m args below meth c H locs cells slots Q (F0 m (pc + 3) ls' rest)) : W p l e R s m args below meth c H locs cells slots Q (F0 m pc ls rest) := by
  intro T hT X
  obtain ⟨t, a, b⟩ := kk T hT X
  refine ⟨t, ?_, b⟩
  jvm_step X.here [X.here.top, ↓top_set X.here.top, hexec, hb, hdg, hg, e']
  exact a
end XW
section XS
variable {E : xE} {i : Nat} {Z : List Frame → Array Value → State → State → Prop} {pc : Nat} {L : List (Option Value)} {st : List Value} {M : xM} {nx cb sb : Nat}
theorem XZ.go {pc' : Nat} {st' : List Value} (h : ∀ {p : Program} {e : Env} {s : State} {m : MethodId} {args : Array Value} {below : List Frame} {meth : Method} {c : Code} {H : Heap} {locs : List Loc} {cells slots : Nat} {ls : Array Slot} {Q : State → Prop}, p.tables.exec = Jvm.exec → c.code = xcode i → xlr ls L →
      W p E.1 e (xrm i) s m args below meth c H locs cells slots Q (F0 m pc' ls st') → W p E.1 e (xrm i) s m args below meth c H locs cells slots Q (F0 m pc ls st))
    (k : XZ E i Z pc' L st' M nx cb sb) : XZ E i Z pc L st M nx cb sb :=
  fun g p e s m args below meth c H locs cells slots ls C hM hn hl hL hc hs hq => h C.1 C.2.1 hl (k g p e s m args below meth c H locs cells slots ls C hM hn hl hL hc hs hq)
/-- a branch -/
theorem XZ.br {pa pb : Nat} {st' : List Value} {t : Prop} (dt : Decidable t) (h : ∀ {p : Program} {e : Env} {s : State} {m : MethodId} {args : Array Value} {below : List Frame} {meth : Method} {c : Code} {H : Heap} {locs : List Loc} {cells slots : Nat} {ls : Array Slot} {Q : State → Prop}, p.tables.exec = Jvm.exec → c.code = xcode i →
      (t → W p E.1 e (xrm i) s m args below meth c H locs cells slots Q (F0 m pa ls st')) → (¬ t → W p E.1 e (xrm i) s m args below meth c H locs cells slots Q (F0 m pb ls st')) → W p E.1 e (xrm i) s m args below meth c H locs cells slots Q (F0 m pc ls st))
    (k1 : t → XZ E i Z pa L st' M nx cb sb) (k2 : ¬ t → XZ E i Z pb L st' M nx cb sb) : XZ E i Z pc L st M nx cb sb :=
  fun g p e s m args below meth c H locs cells slots ls C hM hn hl hL hc hs hq => h C.1 C.2.1 (fun z => k1 z g p e s m args below meth c H locs cells slots ls C hM hn hl hL hc hs hq) (fun z => k2 z g p e s m args below meth c H locs cells slots ls C hM hn hl hL hc hs hq)
theorem xif {t : Prop} [dt : Decidable t] {A B : Prop} (h : if t then A else B) : (t → A) ∧ (¬ t → B) := by
  by_cases z : t
  · rw [if_pos z] at h
    exact ⟨fun _ => h, fun n => absurd z n⟩
  · rw [if_neg z] at h
    exact ⟨fun n => absurd n z, fun _ => h⟩
theorem xs_store1 {pc' j : Nat} {v : Value} {r : List Value} (hj : j < L.length) (hc1 : v.category = 1)
    (h : ∀ {p : Program} {e : Env} {s : State} {m : MethodId} {args : Array Value} {below : List Frame} {meth : Method} {c : Code} {H : Heap} {locs : List Loc} {cells slots : Nat} {ls ls' : Array Slot} {Q : State → Prop}, p.tables.exec = Jvm.exec → c.code = xcode i → storeLocals ls j v = some ls' →
      W p E.1 e (xrm i) s m args below meth c H locs cells slots Q (F0 m pc' ls' r) → W p E.1 e (xrm i) s m args below meth c H locs cells slots Q (F0 m pc ls st))
    (k : XZ E i Z pc' (L.set j (some v)) r M nx cb sb) : XZ E i Z pc L st M nx cb sb := by
  intro g p e s m args below meth c H locs cells slots ls C hM hn hl hL hc hs hq
  obtain ⟨ls', e', hl'⟩ := hl.store hj hc1
  exact h C.1 C.2.1 e' (k g p e s m args below meth c H locs cells slots ls' C hM hn hl' (by rw [List.length_set]; exact hL) hc hs hq)
theorem xs_iinc {j : Nat} {n : Int} {x : Int32} (hd : decode (xcode i) pc = .ok (.iinc j n, 3)) (h1 : L[j]? = some (some (.int x))) (k : XZ E i Z (pc + 3) (L.set j (some (.int (x + Int32.ofInt n)))) st M nx cb sb) : XZ E i Z pc L st M nx cb sb := by
  intro g p e s m args below meth c H locs cells slots ls C hM hn hl hL hc hs hq
  obtain ⟨ls', e', hl'⟩ := hl.store (v := .int (x + Int32.ofInt n)) (List.getElem?_eq_some_iff.mp h1).1 rfl
  exact x_iinc C.1 C.2.1 hd (hl.at h1) e' (k g p e s m args below meth c H locs cells slots ls' C hM hn hl' (by rw [List.length_set]; exact hL) hc hs hq)
theorem xsw_spec {x : Int32} {d : Nat} {P : Nat → Prop} : ∀ {l : List (Int32 × Nat)}, xsw x d P l → (∃ q ∈ l, q.1 = x ∧ P q.2) ∨ ((∀ q ∈ l, q.1 ≠ x) ∧ P d)
  | [], h => Or.inr ⟨(fun q hq => by cases hq), h⟩
  | q :: r, h => by
    unfold xsw at h
    by_cases e : x = q.1
    · rw [if_pos e] at h
      exact Or.inl ⟨q, List.mem_cons_self, e.symm, h⟩
    · rw [if_neg e] at h
      rcases xsw_spec h with ⟨y, hy, h1, h2⟩ | ⟨h1, h2⟩
      · exact Or.inl ⟨y, List.mem_cons_of_mem _ hy, h1, h2⟩
      · refine Or.inr ⟨fun y hy => ?_, h2⟩
        rcases List.mem_cons.mp hy with rfl | hy
        · exact fun z => e z.symm
        · exact h1 y hy
theorem xs_table {K : Nat → List (Option Value) → List Value → xM → Nat → Nat → Nat → Prop} {KX : Nat → List (Option Value) → List Value → xM → Nat → Nat → Nat → Prop} {Rf : Option Value → xM → Nat → Prop} (hK : ∀ pc L st M nx cb sb, K pc L st M nx cb sb → XZ E i Z pc L st M nx cb sb)
    {d lo hi : Int} {offs : Array Int} {len : Nat} {row : xI} (hd : decode (xcode i) pc = .ok (.tableswitch d lo hi offs, len)) (hr : xenc i pc len (.tableswitch d lo hi offs) = some row) (h : xstep K KX Rf E pc len L st M nx cb sb row) : XZ E i Z pc L st M nx cb sb := by
  obtain ⟨h1, hr⟩ := xite_spec (show (if xtsOk pc d lo hi offs = true then some (47, 0, xt pc d, 0, 0, xts pc lo offs.toList) else none) = some row from hr)
  cases hr
  obtain ⟨b1, b2, b3, b4, b5⟩ := xtsOk_spec h1
  obtain ⟨x, r, rfl, h⟩ := xI1_spec h
  rcases xsw_spec h with ⟨q, hq, e, h⟩ | ⟨h1, h⟩
  · obtain ⟨k, off, hk, rfl⟩ := xts_mem hq
    have hk2 : offs[k]? = some off := by rw [← Array.getElem?_toList]; exact hk
    have hlt : k < offs.size := (Array.getElem?_eq_some_iff.mp hk2).1
    have e2 : x.toInt = lo + (k : Int) := by
      rw [← e]
      exact Int32.toInt_ofInt_of_le (by omega) (by omega)
    exact XZ.go (fun hx hb _ w => lv_tableIn hx hb hd (by omega) (by omega) (by rw [show (x.toInt - lo).toNat = k by omega]; exact hk2) (b5 k off hk2) w) (hK _ _ _ _ _ _ _ h)
  · have ho : x.toInt < lo ∨ hi < x.toInt := by
      by_cases c1 : x.toInt < lo
      · exact Or.inl c1
      · by_cases c2 : hi < x.toInt
        · exact Or.inr c2
        · exfalso
          have hlt : (x.toInt - lo).toNat < offs.size := by omega
          refine h1 _ (xts_in (lo := lo) (pc := pc) (k := (x.toInt - lo).toNat) (show offs.toList[(x.toInt - lo).toNat]? = some offs[(x.toInt - lo).toNat] by rw [Array.getElem?_toList, Array.getElem?_eq_getElem hlt])) ?_
          show Int32.ofInt (lo + ((x.toInt - lo).toNat : Int)) = x
          rw [show lo + ((x.toInt - lo).toNat : Int) = x.toInt by omega, Int32.ofInt_toInt]
    exact XZ.go (fun hx hb _ w => lv_tableOut hx hb hd ho b4 w) (hK _ _ _ _ _ _ _ h)
theorem xarrOf {E : xE} {s : State} {cell : Cell} {a t : Nat} (hW : E.2.1.WarmedH s.vm) (h1 : cell.vm.isStatics = false) (h2 : xarc E a t cell.cls) : s.isArrayOf cell (xaty t) := by
  obtain ⟨k, comp, h3, h4, -, -⟩ := h2
  obtain ⟨k', hk', he⟩ := hW.alike.2.2 _ _ h3
  exact ⟨(fun q h => by rw [h] at h1; cases h1), k', hk', comp, by rw [he]; exact h4⟩
theorem xat.set {E : xE} {a t n j : Nat} {f : Nat → Value} {v : Value} {cell : Cell} {H H' : Heap} (h : xat E a (.inr (t, n, f)) H) (hc : H[a]? = some cell) (h1 : H'[a]? = some (cell.setSlot j v)) (hj : j < n) : xat E a (.inr (t, n, updV f j v)) H' := by
  obtain ⟨cell', c1, c2, c3, c4, c5, c6, c7, c8⟩ := h
  cases hc.symm.trans c1
  refine ⟨cell.setSlot j v, h1, c2, c3, c4, c5, ?_, fun q hq => ?_, fun ha => ?_⟩
  · rw [k2_slotsz]
    exact c6
  · by_cases e : q = j
    · subst e
      rw [Cell.slots_setSlot_self v (by rw [c6]; exact hj)]
      simp [updV]
    · rw [slot_ne cell v (fun z => e z.symm), c7 q hq]
      simp [updV, e]
  · have z := c8 ha
    show cell.setSlot j v = arrV cell.cls n (updV f j v)
    rw [← arrV_store]
    exact congrArg (fun y => y.setSlot j v) z
theorem xlocs {E : xE} {locs : List Loc} {a k : Nat} (h : ∀ q ∈ locs, E.2.1.heap.size ≤ q.base) (ha : E.2.1.heap.size ≤ a) : ∀ q ∈ locs ++ [⟨a, k⟩], E.2.1.heap.size ≤ q.base := t_lc (free := fun q => E.2.1.heap.size ≤ q) h ha
theorem xs_alen {a t n : Nat} {f : Nat → Value} {r : List Value} (hd : decode (xcode i) pc = .ok (.arraylength, 1)) (h1 : M a = some (.inr (t, n, f))) (k : XZ E i Z (pc + 1) L (.int (Int32.ofNat n) :: r) M nx cb sb) : XZ E i Z pc L (.ref a :: r) M nx cb sb := by
  intro g p e s m args below meth c H locs cells slots ls C hM hn hl hL hc hs hq
  obtain ⟨cell, c1, c2, c3, c4, c5, c6, c7, c8⟩ := hM.2.2 a _ h1
  exact W.alen (n := Int32.ofNat n) C.1 C.2.1 c1 (xarrOf C.2.2.2.2.2.2.2 c2 c5) (by rw [c6] <;> rfl) rfl rfl hd (k g p e s m args below meth c H locs cells slots ls C hM hn hl hL hc hs hq)
theorem xidx {j : Int32} {n : Nat} {cell : Cell} (h4 : ¬ j < 0) (h5 : j.toNatClampNeg < n) (c6 : cell.slots.size = n) : ¬ (j < 0 ∨ cell.slots.size ≤ j.toNatClampNeg) := by
  rw [c6]
  exact fun z => z.elim h4 (fun z => Nat.not_le.mpr h5 z)
theorem xs_iaload {a t n : Nat} {f : Nat → Value} {j : Int32} {r : List Value} (hd : decode (xcode i) pc = .ok (.iaload, 1)) (h1 : M a = some (.inr (t, n, f))) (h2 : 0 ≤ t) (h3 : t ≤ 0) (h4 : ¬ j < 0) (h5 : j.toNatClampNeg < n) (k : XZ E i Z (pc + 1) L (f j.toNatClampNeg :: r) M nx cb sb) : XZ E i Z pc L (.int j :: .ref a :: r) M nx cb sb := by
  intro g p e s m args below meth c H locs cells slots ls C hM hn hl hL hc hs hq
  obtain ⟨cell, c1, c2, c3, c4, c5, c6, c7, c8⟩ := hM.2.2 a _ h1
  have ht : t = 0 := by omega
  subst ht
  exact W.iald C.1 C.2.1 c1 (xarrOf (t := 0) C.2.2.2.2.2.2.2 c2 c5) c3 (xidx h4 h5 c6) (c7 _ h5) rfl rfl hd (k g p e s m args below meth c H locs cells slots ls C hM hn hl hL hc hs hq)
theorem xs_baload {a t n : Nat} {f : Nat → Value} {j : Int32} {r : List Value} (hd : decode (xcode i) pc = .ok (.baload, 1)) (h1 : M a = some (.inr (t, n, f))) (h2 : 1 ≤ t) (h3 : t ≤ 2) (h4 : ¬ j < 0) (h5 : j.toNatClampNeg < n) (k : XZ E i Z (pc + 1) L (f j.toNatClampNeg :: r) M nx cb sb) : XZ E i Z pc L (.int j :: .ref a :: r) M nx cb sb := by
  intro g p e s m args below meth c H locs cells slots ls C hM hn hl hL hc hs hq
  obtain ⟨cell, c1, c2, c3, c4, c5, c6, c7, c8⟩ := hM.2.2 a _ h1
  have ht : t = 1 ∨ t = 2 := by omega
  rcases ht with rfl | rfl
  · exact W.bald C.1 C.2.1 c1 (xarrOf (t := 1) C.2.2.2.2.2.2.2 c2 c5) c3 (xidx h4 h5 c6) (c7 _ h5) rfl rfl hd (k g p e s m args below meth c H locs cells slots ls C hM hn hl hL hc hs hq)
  · exact W.zald C.1 C.2.1 c1 (xarrOf (t := 2) C.2.2.2.2.2.2.2 c2 c5) c3 (xidx h4 h5 c6) (c7 _ h5) rfl rfl hd (k g p e s m args below meth c H locs cells slots ls C hM hn hl hL hc hs hq)
theorem xs_caload {a t n : Nat} {f : Nat → Value} {j : Int32} {r : List Value} (hd : decode (xcode i) pc = .ok (.caload, 1)) (h1 : M a = some (.inr (t, n, f))) (h2 : 3 ≤ t) (h3 : t ≤ 3) (h4 : ¬ j < 0) (h5 : j.toNatClampNeg < n) (k : XZ E i Z (pc + 1) L (f j.toNatClampNeg :: r) M nx cb sb) : XZ E i Z pc L (.int j :: .ref a :: r) M nx cb sb := by
  intro g p e s m args below meth c H locs cells slots ls C hM hn hl hL hc hs hq
  obtain ⟨cell, c1, c2, c3, c4, c5, c6, c7, c8⟩ := hM.2.2 a _ h1
  have ht : t = 3 := by omega
  subst ht
  exact W.cald C.1 C.2.1 c1 (xarrOf (t := 3) C.2.2.2.2.2.2.2 c2 c5) c3 (xidx h4 h5 c6) (c7 _ h5) rfl rfl hd (k g p e s m args below meth c H locs cells slots ls C hM hn hl hL hc hs hq)
theorem xaty_ref {t : Nat} (h : 4 ≤ t) : xaty t = .object ((xcl[xaci t]?).elim "" (fun q => q.1)) := by
  unfold xaty
  split <;> first | omega | rfl
theorem xs_aaload {a t n : Nat} {f : Nat → Value} {j : Int32} {r : List Value} (hd : decode (xcode i) pc = .ok (.aaload, 1)) (h1 : M a = some (.inr (t, n, f))) (h2 : 4 ≤ t) (h3 : t ≤ 1000) (h4 : ¬ j < 0) (h5 : j.toNatClampNeg < n) (k : XZ E i Z (pc + 1) L (f j.toNatClampNeg :: r) M nx cb sb) : XZ E i Z pc L (.int j :: .ref a :: r) M nx cb sb := by
  intro g p e s m args below meth c H locs cells slots ls C hM hn hl hL hc hs hq
  obtain ⟨cell, c1, c2, c3, c4, c5, c6, c7, c8⟩ := hM.2.2 a _ h1
  have ha := xarrOf C.2.2.2.2.2.2.2 c2 c5
  exact W.aald C.1 C.2.1 c1 ha (by rw [xaty_ref h2]; rfl) c3 (xidx h4 h5 c6) (c7 _ h5) rfl rfl hd (k g p e s m args below meth c H locs cells slots ls C hM hn hl hL hc hs hq)
theorem xs_iastore {a t n : Nat} {f : Nat → Value} {x j : Int32} {r : List Value} (hd : decode (xcode i) pc = .ok (.iastore, 1)) (h0 : xb E ≤ a) (h1 : M a = some (.inr (t, n, f))) (h2 : 0 ≤ t) (h3 : t ≤ 0) (h4 : ¬ j < 0) (h5 : j.toNatClampNeg < n) (k : XZ E i Z (pc + 1) L r (xput M a (.inr (t, n, updV f j.toNatClampNeg (.int (xnar t x))))) nx cb sb) : XZ E i Z pc L (.int x :: .int j :: .ref a :: r) M nx cb sb := by
  intro g p e s m args below meth c H locs cells slots ls C hM hn hl hL hc hs hq
  have hA := hM.2.2 a _ h1
  obtain ⟨cell, c1, c2, c3, c4, c5, c6, c7, c8⟩ := hM.2.2 a _ h1
  have ht : t = 0 := by omega
  subst ht
  exact W.iast C.1 C.2.1 c1 (xarrOf (t := 0) C.2.2.2.2.2.2.2 c2 c5) c3 (xidx h4 h5 c6) rfl rfl hd (fun H' e1 e2 e3 => k g p e s m args below meth c H' _ cells slots ls C (hM.put h0 e2 e3 (hA.set c1 e1 h5)) (by rw [e2]; exact hn) hl hL hc hs (xlocs hq h0))
theorem xs_bastore {a t n : Nat} {f : Nat → Value} {x j : Int32} {r : List Value} (hd : decode (xcode i) pc = .ok (.bastore, 1)) (h0 : xb E ≤ a) (h1 : M a = some (.inr (t, n, f))) (h2 : 1 ≤ t) (h3 : t ≤ 2) (h4 : ¬ j < 0) (h5 : j.toNatClampNeg < n) (k : XZ E i Z (pc + 1) L r (xput M a (.inr (t, n, updV f j.toNatClampNeg (.int (xnar t x))))) nx cb sb) : XZ E i Z pc L (.int x :: .int j :: .ref a :: r) M nx cb sb := by
  intro g p e s m args below meth c H locs cells slots ls C hM hn hl hL hc hs hq
  have hA := hM.2.2 a _ h1
  obtain ⟨cell, c1, c2, c3, c4, c5, c6, c7, c8⟩ := hM.2.2 a _ h1
  have ht : t = 1 ∨ t = 2 := by omega
  rcases ht with rfl | rfl
  · exact W.bast C.1 C.2.1 c1 (xarrOf (t := 1) C.2.2.2.2.2.2.2 c2 c5) c3 (xidx h4 h5 c6) rfl rfl hd (fun H' e1 e2 e3 => k g p e s m args below meth c H' _ cells slots ls C (hM.put h0 e2 e3 (hA.set c1 e1 h5)) (by rw [e2]; exact hn) hl hL hc hs (xlocs hq h0))
  · exact W.zast C.1 C.2.1 c1 (xarrOf (t := 2) C.2.2.2.2.2.2.2 c2 c5) c3 (xidx h4 h5 c6) rfl rfl hd (fun H' e1 e2 e3 => k g p e s m args below meth c H' _ cells slots ls C (hM.put h0 e2 e3 (hA.set c1 e1 h5)) (by rw [e2]; exact hn) hl hL hc hs (xlocs hq h0))
theorem xs_castore {a t n : Nat} {f : Nat → Value} {x j : Int32} {r : List Value} (hd : decode (xcode i) pc = .ok (.castore, 1)) (h0 : xb E ≤ a) (h1 : M a = some (.inr (t, n, f))) (h2 : 3 ≤ t) (h3 : t ≤ 3) (h4 : ¬ j < 0) (h5 : j.toNatClampNeg < n) (k : XZ E i Z (pc + 1) L r (xput M a (.inr (t, n, updV f j.toNatClampNeg (.int (xnar t x))))) nx cb sb) : XZ E i Z pc L (.int x :: .int j :: .ref a :: r) M nx cb sb := by
  intro g p e s m args below meth c H locs cells slots ls C hM hn hl hL hc hs hq
  have hA := hM.2.2 a _ h1
  obtain ⟨cell, c1, c2, c3, c4, c5, c6, c7, c8⟩ := hM.2.2 a _ h1
  have ht : t = 3 := by omega
  subst ht
  exact W.cast C.1 C.2.1 c1 (xarrOf (t := 3) C.2.2.2.2.2.2.2 c2 c5) c3 (xidx h4 h5 c6) rfl rfl hd (fun H' e1 e2 e3 => k g p e s m args below meth c H' _ cells slots ls C (hM.put h0 e2 e3 (hA.set c1 e1 h5)) (by rw [e2]; exact hn) hl hL hc hs (xlocs hq h0))
theorem xs_aastore {a t n : Nat} {f : Nat → Value} {v : Value} {j : Int32} {r : List Value} (hd : decode (xcode i) pc = .ok (.aastore, 1)) (h0 : xb E ≤ a) (h1 : M a = some (.inr (t, n, f))) (h2 : 4 ≤ t) (h4 : ¬ j < 0) (h5 : j.toNatClampNeg < n) (h6 : xastok M t v) (k : XZ E i Z (pc + 1) L r (xput M a (.inr (t, n, updV f j.toNatClampNeg v))) nx cb sb) : XZ E i Z pc L (v :: .int j :: .ref a :: r) M nx cb sb := by
  intro g p e s m args below meth c H locs cells slots ls C hM hn hl hL hc hs hq
  have hA := hM.2.2 a _ h1
  obtain ⟨cell, c1, c2, c3, c4, c5, c6, c7, c8⟩ := hM.2.2 a _ h1
  have hW := C.2.2.2.2.2.2.2
  have ha := xarrOf hW c2 c5
  unfold xastok at h6
  split at h6
  · exact va_WaastN (C := (xcl[xaci t]?).elim "" (fun q => q.1)) C.1 C.2.1 c1 (by rw [← xaty_ref h2]; exact ha) c3 (xidx h4 h5 c6) rfl rfl hd (fun H' e1 e2 e3 => k g p e s m args below meth c H' _ cells slots ls C (hM.put h0 e2 e3 (hA.set c1 e1 h5)) (by rw [e2]; exact hn) hl hL hc hs (xlocs hq h0))
  · next b =>
    obtain ⟨fs, g1, -⟩ := xobj_spec h6
    obtain ⟨cellV, d1, d2, d3, d4, cd, d5, d6, d7, d8⟩ := hM.2.2 b _ g1
    obtain ⟨kA, comp, k1, k2, k3, -⟩ := c5
    have hty : xaty t = .object cd.1 := by rw [xaty_ref h2]; dsimp only at d5; rw [d5]; rfl
    have hKn := u_Kn_moved hW.alike (g.2.1 _ _ d5)
    obtain ⟨k', hk', he⟩ := hW.alike.2.2 _ _ k1
    have hcomp : comp = E.2.2.1.1 (xaci t) := by
      have z := k3 _ hty
      have z2 := (g.2.1 _ _ d5).2.1
      exact Option.some.inj (z.symm.trans z2)
    obtain ⟨kC, hkC, -⟩ := hKn.2.2
    refine W.aast C.1 C.2.1 c1 (fun q h => by rw [h] at c2; cases c2) c3 hk' (by rw [he]; exact k2) (by rw [hty]; rfl) (kcomp := kC) (by rw [hcomp]; exact hkC) ⟨h4, by rw [c6]; exact h5⟩ d1 (fun q h => by rw [h] at d2; cases d2) (kv := kC) (by rw [d6]; exact hkC) (by rw [d6, hcomp]; exact va_assign hKn.2) rfl rfl hd (fun H' e1 e2 e3 => k g p e s m args below meth c H' _ cells slots ls C (hM.put h0 e2 e3 (hA.set c1 e1 h5)) (by rw [e2]; exact hn) hl hL hc hs (xlocs hq h0))
  · exact h6.elim
theorem xs_newarray {K KX : Nat → List (Option Value) → List Value → xM → Nat → Nat → Nat → Prop} {Rf : Option Value → xM → Nat → Prop} {at' : Jvm.ClassFile.ArrayType} {t : Nat} (hd : decode (xcode i) pc = .ok (.newarray at', 2)) (ht : newarray.typeOf at' = xaty t ∧ t < 4) (hK : ∀ pc L st M nx cb sb, K pc L st M nx cb sb → XZ E i Z pc L st M nx cb sb)
    (h : xstep K KX Rf E pc 2 L st M nx cb sb (54, 0, t, 0, 0, [])) : XZ E i Z pc L st M nx cb sb := by
  obtain ⟨n, r, rfl, h1, h2, h3, h4, h⟩ := xI1_spec h
  have k := hK _ _ _ _ _ _ _ h
  intro g p e s m args below meth c H locs cells slots ls C hM hn hl hL hc hs hq
  have hW := C.2.2.2.2.2.2.2
  subst hn
  refine W.newa C.1 C.2.1 (by rw [ht.1]; exact xword g (xarrc ht.2) rfl hW args) rfl hd rfl h1 (by rw [ht.1]; exact xbytes ht.2 h2) (by show _ ≤ xmc i; omega) (by show _ ≤ xms i; omega) fun cA kA comp g1 g2 g3 => ?_
  generalize hH1 : H.push ({ cls := cA, slots := Array.replicate n.toNatClampNeg (defaultValue (newarray.typeOf at')), vm := .none } : Cell) = H1
  have z1 : H1.size = H.size + 1 := by rw [← hH1, Array.size_push]
  have e1 : H1[H.size]? = some ({ cls := cA, slots := Array.replicate n.toNatClampNeg (defaultValue (newarray.typeOf at')), vm := .none } : Cell) := by rw [← hH1, Array.getElem?_push_size]
  have o1 : ∀ q : Nat, q < H.size → H1[q]? = H[q]? := fun q hq => by rw [← hH1, Array.getElem?_push, if_neg (Nat.ne_of_lt hq)]
  obtain ⟨k', hk', he⟩ := hW.alike.symm.2.2 _ _ g2
  refine k g p e s m args below meth c H1 locs (cells + 1) (slots + n.toNatClampNeg) ls C (hM.new z1 o1 ⟨_, e1, rfl, (fun z => nomatch z), (fun _ => rfl), ⟨k', comp, hk', (by rw [he, g3, ht.1]), (fun C2 z => ?_), (fun _ => by rw [← hW.alike.findClass, ← ht.1]; exact g1)⟩, ?_, fun j hj => ?_, fun _ => ?_⟩) z1 hl hL (by omega) (by omega) hq
  · exact absurd z (xaty_small ht.2 C2)
  · show (Array.replicate _ _).size = _
    rw [Array.size_replicate]
  · show (Array.replicate _ _)[j]? = _
    rw [Array.getElem?_replicate, if_pos hj, ht.1, xaty_def ht.2]
  · show _ = arrV cA _ _
    rw [ht.1, xaty_def ht.2]
    exact arrV_new _ _ _
end XS
