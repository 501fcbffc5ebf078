/-- s' is s but for what was found -/
def rQ (s s' : rS) : Prop := ∀ j, j ≠ 25 → s'.2 j = s.2 j
theorem rQ.has {s s' : rS} (h : rQ s s') (r n : Nat) : rHas s' r n = rHas s r n := by unfold rHas; rw [h 5 (by decide)]
theorem rQ.fst {s s' : rS} (h : rQ s s') (n : Nat) : ∀ k r, rFst s' n k r = rFst s n k r
  | 0, _ => rfl
  | k + 1, r => by unfold rFst; rw [h 6 (by decide), h.has, h.fst n k]
theorem rQ.wy {s s' : rS} (h : rQ s s') (b : Nat) : ∀ k hop r, rWy s' b k hop r = rWy s b k hop r
  | 0, _, _ => rfl
  | k + 1, hop, r => by unfold rWy; rw [h 7 (by decide), h 10 (by decide), h 8 (by decide), h.wy b k]
theorem rQ.way {s s' : rS} (h : rQ s s') (R a b : Nat) : rWay s' R a b = rWay s R a b := by unfold rWay; rw [h.wy, h.fst]
theorem rQ.pl {s s' : rS} (h : rQ s s') (x : Int32) : ∀ l k, rPl s' x l k = rPl s x l k
  | 0, _ => rfl
  | l + 1, k => by unfold rPl; rw [h 1 (by decide), h.pl x l]
theorem rQ.ln {s s' : rS} (h : rQ s s') (n : Nat) : rLn s' n = rLn s n := by unfold rLn; rw [h 3 (by decide)]
theorem rQ.std {s s' : rS} (h : rQ s s') (n : Nat) : ∀ l k t, rStd s' n l k t = rStd s n l k t
  | 0, _, _ => rfl
  | l + 1, k, t => by unfold rStd; rw [h 1 (by decide), h 2 (by decide), h.std n l]
theorem rQ.stands {s s' : rS} (h : rQ s s') (n o a b : Nat) : rStands s' n o a b = rStands s n o a b := by unfold rStands; rw [h.ln, h.std]
theorem rQ.fits {s s' : rS} (h : rQ s s') (a b n : Nat) : rFits s' a b n = rFits s a b n := by
  unfold rFits; rw [h.pl]
  split
  · rw [h.ln, h.stands, h.stands]
  · rw [h.ln, h.stands, h 1 (by decide)]
theorem rQ.san {s s' : rS} (h : rQ s s') (x y : Nat) : ∀ l k v, rSaN s' x y l k v = rSaN s x y l k v
  | 0, _, _ => rfl
  | l + 1, k, v => by unfold rSaN; rw [h 2 (by decide), h.san x y l]
theorem rQ.same {s s' : rS} (h : rQ s s') (x y : Nat) : rSame s' x y = rSame s x y := by unfold rSame; rw [h.san, h.ln, h.ln]
theorem rQ.zm {s s' : rS} (h : rQ s s') (Z a b : Nat) (p : Option Nat) : rZm s' Z a b p = rZm s Z a b p := by
  cases p
  · exact h.same b a
  · next p =>
    show (decide (rLn s' b = Z - p) && rStands s' b 0 p Z) = (decide (rLn s b = Z - p) && rStands s b 0 p Z)
    rw [h.ln, h.stands]
theorem rQ.reach {s s' : rS} (h : rQ s s') (R Z a b : Nat) (p : Option Nat) : rReach s' R Z a b p = rReach s R Z a b p := by
  unfold rReach rReachB; rw [h.zm, h.fst, h 7 (by decide), h 11 (by decide), h.way, h.way]
theorem rQ.lt {s s' : rS} (h : rQ s s') (g : rLt s) : rLt s' := by
  unfold rLt; rw [h 1 (by decide), h 2 (by decide), h 3 (by decide)]
  refine ⟨fun n hn => ?_, g.2⟩
  rw [h.ln]; exact g.1 n hn
/-- how many come before: the place q of each, at h and i -/
def rCn' (q : Nat → Nat) (h i : Nat) : Nat → Nat
  | 0 => 0
  | n + 1 => rCn' q h i n + (if q n < h ∨ (q n = h ∧ n < i) then 1 else 0)
theorem rCn_le (q : Nat → Nat) (h i : Nat) : ∀ n, rCn' q h i n ≤ n
  | 0 => Nat.le_refl 0
  | n + 1 => by
    rw [rCn']
    have := rCn_le q h i n
    split <;> omega
theorem rCn_lt (q : Nat → Nat) (i : Nat) : ∀ n, i < n → rCn' q (q i) i n < n
  | 0, hn => by omega
  | n + 1, hn => by
    rw [rCn']
    by_cases e : n = i
    · subst e
      rw [if_neg (by omega)]
      have := rCn_le q (q n) n n
      omega
    · have := rCn_lt q i n (by omega)
      split <;> omega
theorem rCn_s (q : Nat → Nat) (h i : Nat) : ∀ n, rCn' q h (i + 1) n = rCn' q h i n + (if q i = h ∧ i < n then 1 else 0)
  | 0 => by simp [rCn']
  | n + 1 => by
    rw [rCn', rCn', rCn_s q h i n]
    by_cases e : n = i
    · subst e
      by_cases g : q n = h
      · subst g
        simp
      · have : ¬ (q n = h ∧ n < n) := by omega
        simp [g]
    · by_cases g : i < n
      · have e1 : (q n < h ∨ q n = h ∧ n < i + 1) ↔ (q n < h ∨ q n = h ∧ n < i) := by omega
        have e2 : (q i = h ∧ i < n) ↔ (q i = h ∧ i < n + 1) := by omega
        simp only [e1, e2]
        omega
      · have e1 : (q n < h ∨ q n = h ∧ n < i + 1) ↔ (q n < h ∨ q n = h ∧ n < i) := by omega
        have e2 : (q i = h ∧ i < n) ↔ (q i = h ∧ i < n + 1) := by omega
        simp only [e1, e2]
        omega
theorem rCn_h (q : Nat → Nat) (h S : Nat) : ∀ n, n ≤ S → rCn' q (h + 1) 0 n = rCn' q h S n
  | 0, _ => rfl
  | n + 1, hn => by
    rw [rCn', rCn', rCn_h q h S n (by omega)]
    have e : (q n < h + 1 ∨ q n = h + 1 ∧ n < 0) ↔ (q n < h ∨ q n = h ∧ n < S) := by omega
    simp only [e]
theorem rCn_0 (q : Nat → Nat) : ∀ n, rCn' q 0 0 n = 0
  | 0 => rfl
  | n + 1 => by rw [rCn', rCn_0 q n, if_neg (by omega)]
def rQn (r : Int32) : Nat := if r < 0 ∨ 16 ≤ r then 16 else r.toNatClampNeg
theorem rQn_e {r : Int32} {h : Nat} (hh : h < 16) : rQn r = h ↔ r = nI h := by
  unfold rQn
  constructor
  · intro e
    split at e
    · omega
    · next z =>
      obtain ⟨j, hj, rfl⟩ := nIv (X := 16) (fun y => z (Or.inl y)) (fun y => z (Or.inr y)) (by decide)
      rw [nI_clamp (by omega)] at e
      rw [e]
  · rintro rfl
    have g : ¬ (16 : Int32) ≤ nI h := nI_ge hh (by decide)
    rw [if_neg (by simp only [nI_pos (show h < 2 ^ 31 by omega), g, or_self, not_false_iff]), nI_clamp (by omega)]
def rMt (s : rS) (c t i : Nat) : Bool := decide (s.2 17 i = 0) && rFits s 0 c (8 + i) && rFits s (c + 1) t (24 + i)
/-- at what distance service i is found, 16 if it isn't -/
def rPq (s : rS) (R Z a c t : Nat) (p : Option Nat) (i : Nat) : Nat := if rMt s c t i then rQn (rReach s R Z a (rHm s i) p) else 16
def rSi (q : Nat → Nat) (h : Nat) : Nat → Nat → Nat × (Nat → Int32) → Nat × (Nat → Int32)
  | 0, _, x => x
  | l + 1, i, x => rSi q h l (i + 1) (if q i = h then (x.1 + 1, fun k => if k = x.1 then nI i else x.2 k) else x)
def rSh (q : Nat → Nat) (S : Nat) : Nat → Nat → Nat × (Nat → Int32) → Nat × (Nat → Int32)
  | 0, _, x => x
  | l + 1, h, x => rSh q S l (h + 1) (rSi q h S 0 x)
def rSt' (s : rS) (x : Nat × (Nat → Int32)) : rS := (upd s.1 33 (nI x.1), fun j k => if j = 25 then x.2 k else s.2 j k)
theorem rSt_q (s : rS) (x : Nat × (Nat → Int32)) : rQ s (rSt' s x) := fun j hj => by funext k; simp [rSt', hj]
theorem rSi_n (q : Nat → Nat) (h S : Nat) : ∀ l i x, i + l = S → x.1 = rCn' q h i S → (rSi q h l i x).1 = rCn' q h S S
  | 0, i, x, hi, hx => by
    obtain rfl : i = S := by omega
    exact hx
  | l + 1, i, x, hi, hx => by
    rw [rSi]
    refine rSi_n q h S l (i + 1) _ (by omega) ?_
    rw [rCn_s]
    by_cases g : q i = h
    · rw [if_pos g, if_pos ⟨g, by omega⟩]; dsimp only; rw [hx]
    · rw [if_neg g, if_neg (fun z => g z.1)]; exact hx
def rStar (s : rS) (Z t : Nat) : Bool := decide (t + 2 = Z) && decide (s.2 1 (Z - 1) = 42)
def rSearch (s : rS) (R S Z a : Nat) : Int32 × rS := match rPl s 58 Z 0, rPl s 64 Z 0 with
  | some c, some t => if ¬ t < c ∧ rMask s 0 c = true ∧ rMask s (c + 1) t = true ∧ (rStar s Z t = true ∨ rNm s (t + 1) Z = true) then
      (nI (rSh (rPq s R Z a c t (if rStar s Z t then none else some (t + 1))) S 16 0 (0, s.2 25)).1, rSt' s (rSh (rPq s R Z a c t (if rStar s Z t then none else some (t + 1))) S 16 0 (0, s.2 25)))
    else (-2, s)
  | _, _ => (-2, s)
theorem rMask_lt {s : rS} {a b : Nat} (h : rMask s a b = true) : a < b := by
  simp only [rMask, Bool.or_eq_true, Bool.and_eq_true, decide_eq_true_eq] at h
  rcases h with h | h
  · exact rNm_lt h
  · exact h.1.1
set_option maxRecDepth 100000 in
set_option maxHeartbeats 4000000 in
theorem rli105 {E : xE} {M0 : xM} {m nx R S Z a c t hp : Nat} {star : Bool} {s : rS} {Q : Option Value → xM → Nat → Prop} (hb : xb E ≤ m) (hl : rLt s) (hR : R ≤ 6) (h9 : s.1 9 = nI R) (hnx : ∀ k, k < 48 → rRt (s.2 8 k)) (hS : S ≤ 16) (h22 : s.1 22 = nI S) (hZ : Z ≤ 32) (h4 : s.1 4 = nI Z) (ha : a < 8) (hh : ∀ i, i < S → ∃ B, B < 64 ∧ s.2 16 i = nI B) (hc0 : 0 < c) (hct : c + 1 < t) (htZ : t < Z) (hhp : hp < 16) (x' : Nat × (Nat → Int32))
    (kk : ∀ M' l7, rR M0 M' m (rSt' s x') → XZ E 105 (xZ E 105 Q) 240 [some (.ref m), some (.int (nI a)), some (.int (nI c)), some (.int (nI t)), some (.int (if star then 1 else 0)), some (.int (nI hp)), some (.int (nI S)), l7] [] M' nx 0 0) :
    ∀ l i x M l7, i + l = S → x.1 = rCn' (rPq s R Z a c t (if star then none else some (t + 1))) hp i S → rSi (rPq s R Z a c t (if star then none else some (t + 1))) hp l i x = x' → rR M0 M m (rSt' s x) →
    XZ E 105 (xZ E 105 Q) 120 [some (.ref m), some (.int (nI a)), some (.int (nI c)), some (.int (nI t)), some (.int (if star then 1 else 0)), some (.int (nI hp)), some (.int (nI i)), l7] [] M nx 0 0 := by
  intro l
  induction l with
  | zero =>
    intro i x M l7 hi hx he h
    obtain rfl : i = S := by omega
    have e22 : (rSt' s x).1 22 = nI i := h22
    refine XZ.runH 60 [120, 240] ?_
    simp only [n105, t105, ↓xh, ↓xst, ↓xrunE, ↓rG, rL, rSt, updA, List.elem_nil, List.elem_cons, Nat.reduceBEq, Bool.false_eq_true, if_false, if_true, true_and, and_true, true_or, or_true, not_false_eq_true, Nat.reduceAdd, Nat.reduceSub, Nat.reduceLeDiff, Nat.reduceEqDiff, Nat.reduceLT, ↓reduceIte, List.length_cons, List.length_nil, List.set_cons_zero, List.set_cons_succ, Nat.le_refl, Nat.zero_le, Nat.zero_sub, Nat.sub_zero, List.nil_append, List.cons_append, Option.toList_some, Option.toList_none, eq_self, ↓rO1 h.1, e22, nI_le (Nat.le_refl i) (show i < 2 ^ 31 by omega)]
    exact kk M _ (h.to (by rw [← he]; rfl))
  | succ l ih =>
    intro i x M l7 hi hx he h
    obtain ⟨B, hB, eB⟩ := hh i (by omega)
    have eH : rHm s i = B / 8 := by rw [rHm, eB, nI_clamp (by omega)]
    have ii := nIx (show i < 16 by omega)
    have q := rSt_q s x
    have e22 : (rSt' s x).1 22 = nI S := h22
    have e9 : (rSt' s x).1 9 = nI R := h9
    have e4 : (rSt' s x).1 4 = nI Z := h4
    have e33 : (rSt' s x).1 33 = nI x.1 := rfl
    have e17 := q 17 (by decide)
    have e16 := q 16 (by decide)
    have g := nI_ge (show i < S by omega) (show S < 2 ^ 31 by omega)
    rw [rSi] at he
    have skip : ¬ rPq s R Z a c t (if star then none else some (t + 1)) i = hp → ∀ l7, XZ E 105 (xZ E 105 Q) 234 [some (.ref m), some (.int (nI a)), some (.int (nI c)), some (.int (nI t)), some (.int (if star then 1 else 0)), some (.int (nI hp)), some (.int (nI i)), l7] [] M nx 0 0 := by
      intro z l7
      rw [if_neg z] at he
      refine XZ.runH 60 [120] ?_
      simp only [n105, t105, ↓xh, ↓xst, ↓xrunE, ↓rG, rL, rSt, updA, List.elem_nil, List.elem_cons, Nat.reduceBEq, Bool.false_eq_true, if_false, if_true, true_and, and_true, true_or, or_true, not_false_eq_true, Nat.reduceAdd, Nat.reduceSub, Nat.reduceLeDiff, Nat.reduceEqDiff, Nat.reduceLT, ↓reduceIte, List.length_cons, List.length_nil, List.set_cons_zero, List.set_cons_succ, Nat.le_refl, Nat.zero_le, Nat.zero_sub, Nat.sub_zero, List.nil_append, List.cons_append, Option.toList_some, Option.toList_none, eq_self, nI_1]
      refine ih (i + 1) x M _ (by omega) ?_ he h
      have z' : ¬ (rPq s R Z a c t (if star then none else some (t + 1)) i = hp ∧ i < S) := fun y => z y.1
      rw [rCn_s, if_neg z']; exact hx
    have no : rMt s c t i = false → ¬ rPq s R Z a c t (if star then none else some (t + 1)) i = hp := by
      intro z; rw [rPq, z]; exact fun y => absurd y.symm (by simp; omega)
    have go : rMt s c t i = true → ∀ l7, XZ E 105 (xZ E 105 Q) 174 [some (.ref m), some (.int (nI a)), some (.int (nI c)), some (.int (nI t)), some (.int (if star then 1 else 0)), some (.int (nI hp)), some (.int (nI i)), l7] [.int 1] M nx 0 0 := by
      intro z l7
      have pe : rPq s R Z a c t (if star then none else some (t + 1)) i = rQn (rReach s R Z a (B / 8) (if star then none else some (t + 1))) := by rw [rPq, if_pos z, eH]
      have after : XC E 118 [.ref m, .int (nI a), .int (nI (B / 8)), .int (rPa (if star then none else some (t + 1)))] M nx (fun v M' nx' => XZ E 105 (xZ E 105 Q) 208 [some (.ref m), some (.int (nI a)), some (.int (nI c)), some (.int (nI t)), some (.int (if star then 1 else 0)), some (.int (nI hp)), some (.int (nI i)), some (.int 1)] (v.toList ++ []) M' nx' 0 0) := by
        refine rc118 (R := R) (Z := Z) h.1 (q.lt hl) hR e9 hZ e4 ha (by omega) ?_ (by rw [q 8 (by decide)]; exact hnx) ?_
        · intro y hy
          cases star
          · cases hy; omega
          · cases hy
        rw [q.reach]
        refine XZ.runH 60 [107, 224, 234] ?_
        by_cases c1 : rReach s R Z a (B / 8) (if star then none else some (t + 1)) = nI hp
        · have hit : rPq s R Z a c t (if star then none else some (t + 1)) i = hp := by rw [pe]; exact (rQn_e hhp).mpr c1
          have F16 : x.1 < 16 := by
            have := rCn_lt (rPq s R Z a c t (if star then none else some (t + 1))) i S (by omega)
            rw [hit, ← hx] at this
            omega
          rw [if_pos hit] at he
          simp only [n105, t105, ↓xh, ↓xst, ↓xrunE, ↓rG, rL, rSt, updA, List.elem_nil, List.elem_cons, Nat.reduceBEq, Bool.false_eq_true, if_false, if_true, true_and, and_true, true_or, or_true, not_false_eq_true, Nat.reduceAdd, Nat.reduceSub, Nat.reduceLeDiff, Nat.reduceEqDiff, Nat.reduceLT, ↓reduceIte, List.length_cons, List.length_nil, List.set_cons_zero, List.set_cons_succ, Nat.le_refl, Nat.zero_le, Nat.zero_sub, Nat.sub_zero, List.nil_append, List.cons_append, Option.toList_some, Option.toList_none, eq_self, c1, ↓rO1 h.1, ↓rB h.1, e33, nIx F16, xn0, xbj hb]
          refine XZ.abs (h.arr 25 _ _ (by decide) (by decide)) (fun M1 h1 => ?_)
          refine XZ.runH 60 [107, 224, 234] ?_
          simp only [n105, t105, ↓xh, ↓xst, ↓xrunE, ↓rG, rL, rSt, updA, List.elem_nil, List.elem_cons, Nat.reduceBEq, Bool.false_eq_true, if_false, if_true, true_and, and_true, true_or, or_true, not_false_eq_true, Nat.reduceAdd, Nat.reduceSub, Nat.reduceLeDiff, Nat.reduceEqDiff, Nat.reduceLT, ↓reduceIte, List.length_cons, List.length_nil, List.set_cons_zero, List.set_cons_succ, Nat.le_refl, Nat.zero_le, Nat.zero_sub, Nat.sub_zero, List.nil_append, List.cons_append, Option.toList_some, Option.toList_none, eq_self, ↓rO1 h1.1, e33, nI_1, hb]
          refine XZ.abs h1.fl (fun M2 h2 => ?_)
          refine XZ.runH 60 [120] ?_
          simp only [n105, t105, ↓xh, ↓xst, ↓xrunE, ↓rG, rL, rSt, updA, List.elem_nil, List.elem_cons, Nat.reduceBEq, Bool.false_eq_true, if_false, if_true, true_and, and_true, true_or, or_true, not_false_eq_true, Nat.reduceAdd, Nat.reduceSub, Nat.reduceLeDiff, Nat.reduceEqDiff, Nat.reduceLT, ↓reduceIte, List.length_cons, List.length_nil, List.set_cons_zero, List.set_cons_succ, Nat.le_refl, Nat.zero_le, Nat.zero_sub, Nat.sub_zero, List.nil_append, List.cons_append, Option.toList_some, Option.toList_none, eq_self, nI_1]
          refine ih (i + 1) _ M2 _ (by omega) ?_ he (h2.to ?_)
          · have p' : rPq s R Z a c t (if star then none else some (t + 1)) i = hp ∧ i < S := ⟨hit, by omega⟩
            dsimp only; rw [rCn_s, if_pos p', hx]
          · refine Prod.ext ?_ ?_
            · funext f; simp only [rSt', upd]; split <;> rfl
            · funext j k
              by_cases z25 : j = 25
              · subst z25; simp [rSt', up2]
              · simp [rSt', up2, z25]
        · simp only [n105, t105, ↓xh, ↓xst, ↓xrunE, ↓rG, rL, rSt, updA, List.elem_nil, List.elem_cons, Nat.reduceBEq, Bool.false_eq_true, if_false, if_true, true_and, and_true, true_or, or_true, not_false_eq_true, Nat.reduceAdd, Nat.reduceSub, Nat.reduceLeDiff, Nat.reduceEqDiff, Nat.reduceLT, ↓reduceIte, List.length_cons, List.length_nil, List.set_cons_zero, List.set_cons_succ, Nat.le_refl, Nat.zero_le, Nat.zero_sub, Nat.sub_zero, List.nil_append, List.cons_append, Option.toList_some, Option.toList_none, eq_self, c1]
          exact skip (by rw [pe]; exact fun y => c1 ((rQn_e hhp).mp y)) _
      refine XZ.runH 60 [] ?_
      cases star
      · simp only [n105, n118, t105, ↓xh, ↓xst, ↓xrunE, ↓rG, rL, rSt, updA, List.elem_nil, List.elem_cons, Nat.reduceBEq, Bool.false_eq_true, if_false, if_true, true_and, and_true, true_or, or_true, not_false_eq_true, Nat.reduceAdd, Nat.reduceSub, Nat.reduceLeDiff, Nat.reduceEqDiff, Nat.reduceLT, ↓reduceIte, List.length_cons, List.length_nil, List.set_cons_zero, List.set_cons_succ, Nat.le_refl, Nat.zero_le, Nat.zero_sub, Nat.sub_zero, List.nil_append, List.cons_append, Option.toList_some, Option.toList_none, eq_self, show ¬ (1 : Int32) = 0 by decide, ↓rO1 h.1, ↓rB h.1, ii, e16, eB, nI_div8 B hB, show ¬ (8 : Int32) = 0 by decide, nI_1]
        exact after
      · simp only [n105, n118, t105, ↓xh, ↓xst, ↓xrunE, ↓rG, rL, rSt, updA, List.elem_nil, List.elem_cons, Nat.reduceBEq, Bool.false_eq_true, if_false, if_true, true_and, and_true, true_or, or_true, not_false_eq_true, Nat.reduceAdd, Nat.reduceSub, Nat.reduceLeDiff, Nat.reduceEqDiff, Nat.reduceLT, ↓reduceIte, List.length_cons, List.length_nil, List.set_cons_zero, List.set_cons_succ, Nat.le_refl, Nat.zero_le, Nat.zero_sub, Nat.sub_zero, List.nil_append, List.cons_append, Option.toList_some, Option.toList_none, eq_self, show ¬ (1 : Int32) = 0 by decide, ↓rO1 h.1, ↓rB h.1, ii, e16, eB, nI_div8 B hB, show ¬ (8 : Int32) = 0 by decide, nI_1]
        exact after
    have stay : rMt s c t i = false → ∀ l7, XZ E 105 (xZ E 105 Q) 174 [some (.ref m), some (.int (nI a)), some (.int (nI c)), some (.int (nI t)), some (.int (if star then 1 else 0)), some (.int (nI hp)), some (.int (nI i)), l7] [.int 0] M nx 0 0 := by
      intro z l7
      refine XZ.runH 60 [234] ?_
      simp only [n105, t105, ↓xh, ↓xst, ↓xrunE, ↓rG, rL, rSt, updA, List.elem_nil, List.elem_cons, Nat.reduceBEq, Bool.false_eq_true, if_false, if_true, true_and, and_true, true_or, or_true, not_false_eq_true, Nat.reduceAdd, Nat.reduceSub, Nat.reduceLeDiff, Nat.reduceEqDiff, Nat.reduceLT, ↓reduceIte, List.length_cons, List.length_nil, List.set_cons_zero, List.set_cons_succ, Nat.le_refl, Nat.zero_le, Nat.zero_sub, Nat.sub_zero, List.nil_append, List.cons_append, Option.toList_some, Option.toList_none, eq_self]
      exact skip (no z) _
    refine XZ.runH 60 [120, 174] ?_
    by_cases c2 : s.2 17 i = 0
    rotate_left
    · simp only [n105, t105, ↓xh, ↓xst, ↓xrunE, ↓rG, rL, rSt, updA, List.elem_nil, List.elem_cons, Nat.reduceBEq, Bool.false_eq_true, if_false, if_true, true_and, and_true, true_or, or_true, not_false_eq_true, Nat.reduceAdd, Nat.reduceSub, Nat.reduceLeDiff, Nat.reduceEqDiff, Nat.reduceLT, ↓reduceIte, List.length_cons, List.length_nil, List.set_cons_zero, List.set_cons_succ, Nat.le_refl, Nat.zero_le, Nat.zero_sub, Nat.sub_zero, List.nil_append, List.cons_append, Option.toList_some, Option.toList_none, eq_self, ↓rO1 h.1, ↓rB h.1, e22, g, ii, e17, c2]
      exact stay (by simp [rMt, c2]) _
    simp only [n105, n119, t105, ↓xh, ↓xst, ↓xrunE, ↓rG, rL, rSt, updA, List.elem_nil, List.elem_cons, Nat.reduceBEq, Bool.false_eq_true, if_false, if_true, true_and, and_true, true_or, or_true, not_false_eq_true, Nat.reduceAdd, Nat.reduceSub, Nat.reduceLeDiff, Nat.reduceEqDiff, Nat.reduceLT, ↓reduceIte, List.length_cons, List.length_nil, List.set_cons_zero, List.set_cons_succ, Nat.le_refl, Nat.zero_le, Nat.zero_sub, Nat.sub_zero, List.nil_append, List.cons_append, Option.toList_some, Option.toList_none, eq_self, ↓rO1 h.1, ↓rB h.1, e22, g, ii, e17, c2, nI_8a]
    refine rc119 (a := 0) h.1 (q.lt hl) (by omega) hc0 (by omega) ?_
    rw [q.fits]
    refine XZ.runH 60 [120, 174] ?_
    by_cases c3 : rFits s 0 c (8 + i) = true
    rotate_left
    · simp only [n105, t105, ↓xh, ↓xst, ↓xrunE, ↓rG, rL, rSt, updA, List.elem_nil, List.elem_cons, Nat.reduceBEq, Bool.false_eq_true, if_false, if_true, true_and, and_true, true_or, or_true, not_false_eq_true, Nat.reduceAdd, Nat.reduceSub, Nat.reduceLeDiff, Nat.reduceEqDiff, Nat.reduceLT, ↓reduceIte, List.length_cons, List.length_nil, List.set_cons_zero, List.set_cons_succ, Nat.le_refl, Nat.zero_le, Nat.zero_sub, Nat.sub_zero, List.nil_append, List.cons_append, Option.toList_some, Option.toList_none, eq_self, c3]
      exact stay (by simp [rMt, c3]) _
    simp only [n105, n119, t105, ↓xh, ↓xst, ↓xrunE, ↓rG, rL, rSt, updA, List.elem_nil, List.elem_cons, Nat.reduceBEq, Bool.false_eq_true, if_false, if_true, true_and, and_true, true_or, or_true, not_false_eq_true, Nat.reduceAdd, Nat.reduceSub, Nat.reduceLeDiff, Nat.reduceEqDiff, Nat.reduceLT, ↓reduceIte, List.length_cons, List.length_nil, List.set_cons_zero, List.set_cons_succ, Nat.le_refl, Nat.zero_le, Nat.zero_sub, Nat.sub_zero, List.nil_append, List.cons_append, Option.toList_some, Option.toList_none, eq_self, c3, show ¬ (1 : Int32) = 0 by decide, ↓rO1 h.1, nI_24a, nI_1]
    refine rc119 h.1 (q.lt hl) (by omega) (by omega) (by omega) ?_
    rw [q.fits]
    refine XZ.runH 60 [120, 174] ?_
    by_cases c5 : rFits s (c + 1) t (24 + i) = true
    · simp only [n105, t105, ↓xh, ↓xst, ↓xrunE, ↓rG, rL, rSt, updA, List.elem_nil, List.elem_cons, Nat.reduceBEq, Bool.false_eq_true, if_false, if_true, true_and, and_true, true_or, or_true, not_false_eq_true, Nat.reduceAdd, Nat.reduceSub, Nat.reduceLeDiff, Nat.reduceEqDiff, Nat.reduceLT, ↓reduceIte, List.length_cons, List.length_nil, List.set_cons_zero, List.set_cons_succ, Nat.le_refl, Nat.zero_le, Nat.zero_sub, Nat.sub_zero, List.nil_append, List.cons_append, Option.toList_some, Option.toList_none, eq_self, c5, show ¬ (1 : Int32) = 0 by decide]
      exact go (by simp [rMt, c2, c3, c5]) _
    · simp only [n105, t105, ↓xh, ↓xst, ↓xrunE, ↓rG, rL, rSt, updA, List.elem_nil, List.elem_cons, Nat.reduceBEq, Bool.false_eq_true, if_false, if_true, true_and, and_true, true_or, or_true, not_false_eq_true, Nat.reduceAdd, Nat.reduceSub, Nat.reduceLeDiff, Nat.reduceEqDiff, Nat.reduceLT, ↓reduceIte, List.length_cons, List.length_nil, List.set_cons_zero, List.set_cons_succ, Nat.le_refl, Nat.zero_le, Nat.zero_sub, Nat.sub_zero, List.nil_append, List.cons_append, Option.toList_some, Option.toList_none, eq_self, c5]
      exact stay (by simp [rMt, c5]) _
