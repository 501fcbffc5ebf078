/-! masks: bits counted -/
def jBs (x n : Int32) : Int32 := (x.toUInt32 >>> (n.toUInt32 &&& Int32.toUInt32 31)).toInt32
def jBa (x : Int32) : Int32 := x - (jBs x 1 &&& 1431655765)
def jBb (a : Int32) : Int32 := (a &&& 858993459) + (jBs a 2 &&& 858993459)
def jBd (b : Int32) : Int32 := (b + jBs b 4) &&& 252645135
def jBe (c : Int32) : Int32 := c + jBs c 8
def jBf (d : Int32) : Int32 := (d + jBs d 16) &&& 63
def jBc (x : Int32) : Int32 := jBf (jBe (jBd (jBb (jBa x))))
theorem jBc_v : ∀ m, m < 256 → jBc (nI m) = nI (cnt (rBit (nI m)) 8) := by decide +kernel
theorem rMk_v : ∀ N, N < 9 → ∀ m, m < 2 ^ N → rMk (nI m) N 32 0 0 = some (cnt (rBit (nI m)) 8) := by decide +kernel
theorem rBit_hi : ∀ N, N < 9 → ∀ m, m < 2 ^ N → ∀ k, k < 8 → rBit (nI m) k = true → k < N := by decide +kernel
theorem shr_i {j : Nat} (hj : j < 32) (x : Int32) : (x >>> (nI j &&& 31)).toInt = x.toInt >>> j := by
  have e : ((nI j &&& 31).toBitVec.smod 32#32).toNat = j := by
    revert j
    decide +kernel
  show (x >>> (nI j &&& 31)).toBitVec.toInt = _
  rw [Int32.toBitVec_shiftRight, BitVec.toInt_sshiftRight']
  show x.toBitVec.toInt >>> _ = x.toBitVec.toInt >>> j
  congr 1
theorem rBit_n {u j : Nat} (hu : u < 2 ^ 31) (hj : j < 32) : rBit (nI u) j = u.testBit j := by
  have e : nI u >>> (nI j &&& 31) = nI (u / 2 ^ j) := by
    apply Int32.toInt_inj.mp
    have l : u / 2 ^ j ≤ u := Nat.div_le_self u _
    rw [shr_i hj, nI_toInt hu, nI_toInt (by omega), Int.shiftRight_eq_div_pow]
    norm_cast
  unfold rBit
  rw [e, nI_and1, Nat.testBit_eq_decide_div_mod_eq]
  refine decide_eq_decide.mpr ⟨fun z => ?_, fun z => by rw [z]; rfl⟩
  exact nI_inj (b := 1) (by omega) (by decide) z
theorem rBit_31 {x : Int32} (h : x < 0) : rBit x 31 = true := by
  have e : x >>> (nI 31 &&& 31) = -1 := by
    apply Int32.toInt_inj.mp
    rw [shr_i (by decide), Int.shiftRight_eq_div_pow]
    have a := Int32.lt_iff_toInt_lt.mp h
    have b := Int32.le_toInt x
    rw [Int32.toInt_zero] at a
    show x.toInt / ((2 ^ 31 : Nat) : Int) = (-1 : Int32).toInt
    rw [show (-1 : Int32).toInt = -1 by decide]
    omega
  unfold rBit
  rw [e]
  decide
theorem rMk_s {x : Int32} {N : Nat} : ∀ l k c c', rMk x N l k c = some c' → ∀ j, k ≤ j → j < k + l → N ≤ j → rBit x j = false
  | 0, _, _, _, _, j, h1, h2, _ => by omega
  | l + 1, k, c, c', h, j, h1, h2, h3 => by
    rw [rMk] at h
    by_cases e : j = k
    · subst e
      by_cases b : rBit x j = true
      · rw [if_pos b, if_pos h3] at h
        exact absurd h (by simp)
      · simpa using b
    · split at h
      · split at h
        · exact absurd h (by simp)
        · exact rMk_s l (k + 1) _ _ h j (by omega) (by omega) h3
      · exact rMk_s l (k + 1) _ _ h j (by omega) (by omega) h3
theorem ush_n {N m : Nat} : N < 9 → m < 2 ^ N → jBs (nI m) (nI N) = 0 := by
  revert m N
  have : ∀ N, N < 9 → ∀ m, m < 2 ^ N → jBs (nI m) (nI N) = 0 := by decide +kernel
  exact fun {N m} h1 h2 => this N h1 m h2
/-- all ports are there, or one is not -/
theorem msk {x : Int32} {N : Nat} (hN : N ≤ 8) : (∃ m, m < 2 ^ N ∧ x = nI m) ∨ (rMk x N 32 0 0 = none ∧ ¬ jBs x (nI N) = 0) := by
  have pw : 2 ^ N ≤ 2 ^ 8 := Nat.pow_le_pow_right (by decide) hN
  by_cases neg : x < 0
  · right
    constructor
    · cases h : rMk x N 32 0 0 with
      | none => rfl
      | some c =>
        have := rMk_s 32 0 0 c h 31 (by omega) (by omega) (by omega)
        rw [rBit_31 neg] at this
        exact absurd this (by decide)
    · intro z
      have z' : x.toUInt32 >>> ((nI N).toUInt32 &&& Int32.toUInt32 31) = 0 := by
        have := congrArg Int32.toUInt32 z
        unfold jBs at this
        rw [show Int32.toUInt32 0 = 0 by decide] at this
        simpa using this
      have z2 := congrArg UInt32.toNat z'
      have eN : ((nI N).toUInt32 &&& Int32.toUInt32 31).toNat % 32 = N := by
        have : ∀ N, N < 9 → ((nI N).toUInt32 &&& Int32.toUInt32 31).toNat % 32 = N := by decide +kernel
        exact this N (by omega)
      rw [UInt32.toNat_shiftRight, eN, Nat.shiftRight_eq_div_pow] at z2
      have big : 2 ^ 31 ≤ x.toUInt32.toNat := by
        have a := Int32.lt_iff_toInt_lt.mp neg
        rw [Int32.toInt_zero] at a
        have e : x.toInt = x.toBitVec.toInt := rfl
        rw [e, BitVec.toInt_eq_toNat_cond] at a
        have e2 : x.toUInt32.toNat = x.toBitVec.toNat := rfl
        rw [e2]
        split at a
        · omega
        · omega
      have z3 : x.toUInt32.toNat / 2 ^ N = 0 := z2
      have := (Nat.div_eq_zero_iff (a := x.toUInt32.toNat) (b := 2 ^ N)).mp z3
      have p0 : 0 < 2 ^ N := Nat.pow_pos (by decide)
      omega
  · obtain ⟨u, hu, rfl⟩ := nI_of neg
    by_cases c : u < 2 ^ N
    · exact Or.inl ⟨u, c, rfl⟩
    · right
      constructor
      · cases h : rMk (nI u) N 32 0 0 with
        | none => rfl
        | some c' =>
          exfalso
          apply c
          apply Nat.lt_pow_two_of_testBit
          intro i hi
          by_cases i32 : i < 32
          · rw [← rBit_n hu i32]
            exact rMk_s 32 0 0 c' h i (by omega) (by omega) hi
          · exact Nat.testBit_lt_two_pow (Nat.lt_of_lt_of_le hu (Nat.pow_le_pow_right (by decide) (by omega)))
      · intro z
        have z' : (nI u).toUInt32 >>> ((nI N).toUInt32 &&& Int32.toUInt32 31) = 0 := by
          have := congrArg Int32.toUInt32 z
          unfold jBs at this
          rw [show Int32.toUInt32 0 = 0 by decide] at this
          simpa using this
        have z2 := congrArg UInt32.toNat z'
        have eN : ((nI N).toUInt32 &&& Int32.toUInt32 31).toNat % 32 = N := by
          have : ∀ N, N < 9 → ((nI N).toUInt32 &&& Int32.toUInt32 31).toNat % 32 = N := by decide +kernel
          exact this N (by omega)
        rw [UInt32.toNat_shiftRight, eN, Nat.shiftRight_eq_div_pow] at z2
        have eu : (nI u).toUInt32.toNat = u := by
          show (BitVec.ofNat 32 u).toNat = u
          rw [BitVec.toNat_ofNat]
          omega
        rw [eu] at z2
        have z3 : u / 2 ^ N = 0 := z2
        have := (Nat.div_eq_zero_iff (a := u) (b := 2 ^ N)).mp z3
        have p0 : 0 < 2 ^ N := Nat.pow_pos (by decide)
        omega
def xldw (i pc idx : Nat) : Bool := match decode (xcode i) pc with
  | .ok (.ldc_w k, 3) => k == idx
  | _ => false
theorem xldw_ok {i pc idx : Nat} (h : xldw i pc idx = true) : decode (xcode i) pc = .ok (.ldc_w idx, 3) := by
  unfold xldw at h
  split at h
  · next k e =>
    rw [e, beq_iff_eq.mp h]
  · cases h
theorem xlk_b {i idx k : Nat} {r : xI} (h : xeq ((xlk i idx k).map fun r => (r, 0)) (some (r, 0)) = true) : xlk i idx k = some r := by
  have e := xeq_ok h
  cases z : xlk i idx k with
  | none => rw [z] at e; cases e
  | some r' =>
    rw [z] at e
    injection e with e
    injection e with e _
    rw [e]
theorem xs_ldcw {E : xE} {i : Nat} {Z : List Frame → Array Value → State → State → Prop} {pc : Nat} {L : List (Option Value)} {st : List Value} {M : xM} {nx cb sb idx : Nat} {v : Int32} (hd : xldw i pc idx = true) (hr : xlk (xcn i) idx 60 = some (0, v, 0, 0, 0, [])) (h : XZ E i Z (pc + 3) L (.int v :: st) M nx cb sb) : XZ E i Z pc L st M nx cb sb := by
  rcases xlk_spec hr with ⟨n, tx, e, f1⟩ | ⟨v', e, f1⟩
  · cases e
  · cases e
    intro g p e s m args below meth c H locs cells slots ls C hM hn hl hL hc hs hq
    have hown := C.2.2.2.2.2.1
    rw [xm_own] at hown
    exact lv_ldcw C.1 C.2.1 hown (xword g f1 rfl C.2.2.2.2.2.2.2 args) (xldw_ok hd) (h g p e s m args below meth c H locs cells slots ls C hM hn hl hL hc hs hq)
set_option maxRecDepth 100000 in
set_option maxHeartbeats 4000000 in
theorem jc139 {E : xE} {M : xM} {nx : Nat} {x : Int32} {Q : Option Value → xM → Nat → Prop} (hq : Q (some (.int (jBc x))) M nx) : XC E 139 [.int x] M nx Q := by
  refine XC.run 80 [4, 11, 18, 29] ?_
  simp only [n139, t139, ↓xh, ↓xst, ↓xrunE, ↓rG, rL, rSt, updA, List.elem_nil, List.elem_cons, Nat.reduceBEq, Bool.false_eq_true, if_false, if_true, true_and, and_true, true_or, or_true, not_false_eq_true, Nat.reduceAdd, Nat.reduceSub, Nat.reduceLeDiff, Nat.reduceEqDiff, Nat.reduceLT, ↓reduceIte, List.length_cons, List.length_nil, List.set_cons_zero, List.set_cons_succ, Nat.le_refl, Nat.zero_le, Nat.zero_sub, Nat.sub_zero, List.nil_append, List.cons_append, Option.toList_some, Option.toList_none, eq_self]
  refine xs_ldcw (idx := 265) (v := 1431655765) (by decide +kernel) (xlk_b (by decide +kernel)) ?_
  refine XZ.runH 60 [4, 11, 18, 29] ?_
  simp only [n139, t139, ↓xh, ↓xst, ↓xrunE, ↓rG, rL, rSt, updA, List.elem_nil, List.elem_cons, Nat.reduceBEq, Bool.false_eq_true, if_false, if_true, true_and, and_true, true_or, or_true, not_false_eq_true, Nat.reduceAdd, Nat.reduceSub, Nat.reduceLeDiff, Nat.reduceEqDiff, Nat.reduceLT, ↓reduceIte, List.length_cons, List.length_nil, List.set_cons_zero, List.set_cons_succ, Nat.le_refl, Nat.zero_le, Nat.zero_sub, Nat.sub_zero, List.nil_append, List.cons_append, Option.toList_some, Option.toList_none, eq_self]
  refine xs_ldcw (idx := 266) (v := 858993459) (by decide +kernel) (xlk_b (by decide +kernel)) ?_
  refine XZ.runH 60 [4, 11, 18, 29] ?_
  simp only [n139, t139, ↓xh, ↓xst, ↓xrunE, ↓rG, rL, rSt, updA, List.elem_nil, List.elem_cons, Nat.reduceBEq, Bool.false_eq_true, if_false, if_true, true_and, and_true, true_or, or_true, not_false_eq_true, Nat.reduceAdd, Nat.reduceSub, Nat.reduceLeDiff, Nat.reduceEqDiff, Nat.reduceLT, ↓reduceIte, List.length_cons, List.length_nil, List.set_cons_zero, List.set_cons_succ, Nat.le_refl, Nat.zero_le, Nat.zero_sub, Nat.sub_zero, List.nil_append, List.cons_append, Option.toList_some, Option.toList_none, eq_self]
  refine xs_ldcw (idx := 266) (v := 858993459) (by decide +kernel) (xlk_b (by decide +kernel)) ?_
  refine XZ.runH 60 [4, 11, 18, 29] ?_
  simp only [n139, t139, ↓xh, ↓xst, ↓xrunE, ↓rG, rL, rSt, updA, List.elem_nil, List.elem_cons, Nat.reduceBEq, Bool.false_eq_true, if_false, if_true, true_and, and_true, true_or, or_true, not_false_eq_true, Nat.reduceAdd, Nat.reduceSub, Nat.reduceLeDiff, Nat.reduceEqDiff, Nat.reduceLT, ↓reduceIte, List.length_cons, List.length_nil, List.set_cons_zero, List.set_cons_succ, Nat.le_refl, Nat.zero_le, Nat.zero_sub, Nat.sub_zero, List.nil_append, List.cons_append, Option.toList_some, Option.toList_none, eq_self]
  refine xs_ldcw (idx := 267) (v := 252645135) (by decide +kernel) (xlk_b (by decide +kernel)) ?_
  refine XZ.runH 60 [4, 11, 18, 29] ?_
  simp only [n139, t139, ↓xh, ↓xst, ↓xrunE, ↓rG, rL, rSt, updA, List.elem_nil, List.elem_cons, Nat.reduceBEq, Bool.false_eq_true, if_false, if_true, true_and, and_true, true_or, or_true, not_false_eq_true, Nat.reduceAdd, Nat.reduceSub, Nat.reduceLeDiff, Nat.reduceEqDiff, Nat.reduceLT, ↓reduceIte, List.length_cons, List.length_nil, List.set_cons_zero, List.set_cons_succ, Nat.le_refl, Nat.zero_le, Nat.zero_sub, Nat.sub_zero, List.nil_append, List.cons_append, Option.toList_some, Option.toList_none, eq_self]
  exact hq
