/-! commands: the steps, pure -/
theorem rCar_v (s : rS) (i c q L : Nat) : (rCar s i c q L).1 = s.1 ∧ (∀ j, j < 18 ∨ 23 < j → (rCar s i c q L).2 j = s.2 j) ∧ (∀ x, (rCar s i c q L).2 20 x = if x = i then nI (L + 1) else s.2 20 x) ∧ (∀ x, (rCar s i c q L).2 19 x = if x = i then s.2 19 i + 1 else s.2 19 x) ∧ (∀ x, (rCar s i c q L).2 21 x = if x = 8 * i + L then nI c else s.2 21 x) ∧ (∀ x, (rCar s i c q L).2 22 x = if x = 8 * i + L then s.2 30 c else s.2 22 x) ∧ (∀ x, (rCar s i c q L).2 23 x = if x = 8 * i + L then s.2 18 (4 * i + q % 4) else s.2 23 x) ∧ ∀ x, (rCar s i c q L).2 18 x = if ¬ q ≤ 3 ∧ x = 4 * i + q % 4 then s.2 33 c else s.2 18 x := by
  unfold rCar
  by_cases h : q ≤ 3
  · simp only [if_pos h]
    refine ⟨trivial, fun j hj => ?_, fun x => ?_, fun x => ?_, fun x => ?_, fun x => ?_, fun x => ?_, fun x => ?_⟩
    · rw [up2_n (by omega), up2_n (by omega), up2_n (by omega), up2_n (by omega), up2_n (by omega)]
    all_goals simp [up2, h]
  · simp only [if_neg h]
    refine ⟨trivial, fun j hj => ?_, fun x => ?_, fun x => ?_, fun x => ?_, fun x => ?_, fun x => ?_, fun x => ?_⟩
    · rw [up2_n (by omega), up2_n (by omega), up2_n (by omega), up2_n (by omega), up2_n (by omega), up2_n (by omega)]
    all_goals simp [up2, h]
/-- the class's numbers when a command has been carried out and its time set -/
def cCr (v : cV) (i k : Nat) (g19 g20 g11 : Nat → Int32) : cV := uv (uv (uv v 19 i g19) 20 i g20) 11 (8 * i + k) g11
theorem cQ.car {A : cA} {v : cV} {s : rS} {i c q L k : Nat} {σ : Nat → Nat} {g19 g20 g11 : Nat → Int32} (h : cQ A v s) (hi : i < A 2 2) (hq : q < 8) (hL : L < 8) (h20 : s.2 20 i = nI L) (hl : lRl σ (fun k => v 11 (8 * i + k)) (fun j e => s.2 j (8 * i + e)) L) (hk : k < 8) (hf : v 11 (8 * i + k) 0 = 0) (hn : ∀ e, e < L → ¬ (s.2 21 (8 * i + e) = nI c ∧ s.2 22 (8 * i + e) = s.2 30 c))
    (e19 : g19 0 = v 19 i 0 ∧ g19 3 = v 19 i 3 ∧ g19 5 = v 19 i 5 + 1) (e20 : ∀ x, x < 4 → g20 x = if ¬ q ≤ 3 ∧ x = q % 4 then s.2 33 c else v 20 i x) (e11 : g11 0 = 1 ∧ g11 1 = nI c ∧ g11 2 = s.2 30 c - 1 ∧ g11 3 = v 20 i (q % 4) ∧ g11 4 = s.1 21) :
    cQ A (cCr v i k g19 g20 g11) ((rCar s i c q L).1, up2 (rCar s i c q L).2 24 (8 * i + L) (s.1 21)) ∧ cAt (cCr v i k g19 g20 g11) ((rCar s i c q L).1, up2 (rCar s i c q L).2 24 (8 * i + L) (s.1 21)) i L k (L + 1) := by
  obtain ⟨r1, rn, r20, r19, r21, r22, r23, r18⟩ := rCar_v s i c q L
  have sv := h.2.2.2.1 i hi
  obtain ⟨s1, s2, s3, s4, s5, s6, L', hL', h20', ⟨σ', hl'⟩, T, hT, eT, ht⟩ := sv
  have eL : L' = L := nI_inj (by omega) (by omega) (h20'.symm.trans h20)
  subst eL
  have u24 : ∀ j x, j ≠ 24 → up2 (rCar s i c q L').2 24 (8 * i + L') (s.1 21) j x = (rCar s i c q L').2 j x := fun j x hj => congrFun (up2_n hj) x
  have k11 : ∀ x, cCr v i k g19 g20 g11 11 x = if x = 8 * i + k then g11 else v 11 x := by
    intro x
    unfold cCr
    by_cases z : x = 8 * i + k
    · rw [z, uv_s, if_pos rfl]
    · rw [uv_n (fun y => z y.2), uv_k (by decide), uv_k (by decide), if_neg z]
  have k19 : ∀ x, cCr v i k g19 g20 g11 19 x = if x = i then g19 else v 19 x := by
    intro x
    unfold cCr
    rw [uv_k (by decide), uv_k (by decide)]
    by_cases z : x = i
    · rw [z, uv_s, if_pos rfl]
    · rw [uv_n (fun y => z y.2), if_neg z]
  have k20 : ∀ x, cCr v i k g19 g20 g11 20 x = if x = i then g20 else v 20 x := by
    intro x
    unfold cCr
    rw [uv_k (by decide)]
    by_cases z : x = i
    · rw [z, uv_s, if_pos rfl]
    · rw [uv_n (fun y => z y.2), uv_k (by decide), if_neg z]
  have lr : lRl (fun q => if q = L' then k else σ q) (fun x => cCr v i k g19 g20 g11 11 (8 * i + x)) (fun j e => up2 (rCar s i c q L').2 24 (8 * i + L') (s.1 21) j (8 * i + e)) (L' + 1) := by
    refine hl.add hk hf ?_ (fun x hx hxk => ?_) (fun j x h1 h2 hx => ?_) (fun e he => ?_)
    · try dsimp only
      rw [k11, if_pos rfl, u24 21 _ (by decide), u24 22 _ (by decide), u24 23 _ (by decide), r21, r22, r23, if_pos rfl, if_pos rfl, if_pos rfl, up2_s, if_pos rfl]
      refine ⟨e11.1, e11.2.1, e11.2.2.1, ?_, e11.2.2.2.2⟩
      rw [e11.2.2.2.1]
      exact s6 (q % 4) (by omega)
    · rw [k11, if_neg (by omega)]
    · try dsimp only
      obtain rfl | rfl | rfl | rfl : j = 21 ∨ j = 22 ∨ j = 23 ∨ j = 24 := by omega
      · (try dsimp only); rw [u24 21 _ (by decide), r21, if_neg (by omega)]
      · (try dsimp only); rw [u24 22 _ (by decide), r22, if_neg (by omega)]
      · (try dsimp only); rw [u24 23 _ (by decide), r23, if_neg (by omega)]
      · rw [up2_s, if_neg (by omega), rn 24 (by omega)]
    · try dsimp only
      rw [u24 21 _ (by decide), u24 22 _ (by decide), r21, r22, if_pos rfl, if_pos rfl]
      exact hn e he
  have e20' : (rCar s i c q L').2 20 i = nI (L' + 1) := by rw [r20, if_pos rfl]
  refine ⟨h.svc (i := i) (fun kd a b d => ?_) (fun x hx => by rw [k19, if_neg hx]) (fun x hx => by rw [k20, if_neg hx]) (fun x hx => by rw [k11, if_neg (fun z => hx (by omega))]) r1 (fun j hj => ?_) (fun x hx => ?_) ?_, by omega, by omega, ?_, _, lr, if_pos rfl⟩
  · unfold cCr
    rw [uv_k a, uv_k d, uv_k b]
  · try dsimp only
    rw [up2_n (by omega), rn j (by omega)]
  · refine ⟨by rw [r1], ?_, ?_, fun y _ => ?_, ?_, ?_, fun j e h1 h2 h3 => ?_⟩
    · (try dsimp only); rw [u24 16 _ (by decide), rn 16 (by omega)]
    · (try dsimp only); rw [u24 17 _ (by decide), rn 17 (by omega)]
    · (try dsimp only); rw [u24 18 _ (by decide), r18, if_neg (fun z => by omega)]
    · (try dsimp only); rw [u24 19 _ (by decide), r19, if_neg hx]
    · (try dsimp only); rw [u24 20 _ (by decide), r20, if_neg hx]
    · try dsimp only
      obtain rfl | rfl | rfl | rfl : j = 21 ∨ j = 22 ∨ j = 23 ∨ j = 24 := by omega
      · (try dsimp only); rw [u24 21 _ (by decide), r21, if_neg (by omega)]
      · (try dsimp only); rw [u24 22 _ (by decide), r22, if_neg (by omega)]
      · (try dsimp only); rw [u24 23 _ (by decide), r23, if_neg (by omega)]
      · rw [up2_s, if_neg (by omega), rn 24 (by omega)]
  · have hm : rHm ((rCar s i c q L').1, up2 (rCar s i c q L').2 24 (8 * i + L') (s.1 21)) i = rHm s i := by
      unfold rHm
      dsimp only
      rw [u24 16 _ (by decide), rn 16 (by omega)]
    refine ⟨?_, by rw [hm]; exact s2, ?_, ?_, ?_, fun x hx => ?_, L' + 1, by omega, ?_, ⟨_, lr⟩, T, hT, by rw [r1]; exact eT, fun x hx => ?_⟩
    · rw [k19, if_pos rfl, e19.1, hm]; exact s1
    · (try dsimp only); rw [k19, if_pos rfl, e19.2.1, u24 17 _ (by decide), rn 17 (by omega)]; exact s3
    · (try dsimp only); rw [u24 17 _ (by decide), rn 17 (by omega)]; exact s4
    · (try dsimp only); rw [k19, if_pos rfl, e19.2.2, u24 19 _ (by decide), r19, if_pos rfl, s5]
    · (try dsimp only); rw [k20, if_pos rfl, e20 x hx, u24 18 _ (by decide), r18, s6 x hx]
      by_cases z : ¬ q ≤ 3 ∧ x = q % 4
      · rw [if_pos z, if_pos ⟨z.1, by omega⟩]
      · rw [if_neg z, if_neg (fun y => z ⟨y.1, by omega⟩)]
    · (try dsimp only); rw [u24 20 _ (by decide)]; exact e20'
    · try dsimp only
      rw [up2_s]
      by_cases z : 8 * i + x = 8 * i + L'
      · rw [if_pos z]; exact ⟨T, Nat.le_refl T, eT⟩
      · rw [if_neg z, rn 24 (by omega)]; exact ht x (by omega)
  · try dsimp only
    rw [u24 20 _ (by decide)]; exact e20'
/-- an entry struck off -/
theorem cQ.stk {A : cA} {v : cV} {s : rS} {i e k L : Nat} (h : cQ A v s) (hi : i < A 2 2) (ha : cAt v s i e k (L + 1)) : cQ A (uv v 11 (8 * i + k) (w [0, v 11 (8 * i + k) 1, v 11 (8 * i + k) 2, v 11 (8 * i + k) 3, v 11 (8 * i + k) 4])) (rStk s i e L) := by
  obtain ⟨h1, h2, h3, σ, h4, h5⟩ := ha
  have k8 : k < 8 := by rw [← h5]; exact (h4.1 e h1).1
  have lr := h4.del (G' := fun q => uv v 11 (8 * i + k) (w [0, v 11 (8 * i + k) 1, v 11 (8 * i + k) 2, v 11 (8 * i + k) 3, v 11 (8 * i + k) 4]) 11 (8 * i + q)) (D' := fun j q => (rStk s i e L).2 j (8 * i + q)) h1 (by rw [h5, uv_s]; rfl) (fun q _ hq => uv_n (by omega)) (fun j q a b _ => rStk_at a b)
  obtain ⟨s1, s2, s3, s4, s5, s6, L', hL', h20', ⟨σ', hl'⟩, T, hT, eT, ht⟩ := h.2.2.2.1 i hi
  have eL : L' = L + 1 := nI_inj (by omega) (by omega) (h20'.symm.trans h3)
  subst eL
  refine h.svc (i := i) (fun kd a b c => uv_k (by omega)) (fun q _ => by rw [uv_k (by decide)]) (fun q _ => by rw [uv_k (by decide)]) (fun q hq => uv_n (fun z => hq (by omega))) rfl (fun j hj => rStk_n (by omega)) (fun q hq => ⟨rfl, by rw [rStk_n (by omega)], by rw [rStk_n (by omega)], fun k _ => by rw [rStk_n (by omega)], by rw [rStk_n (by omega)], by rw [rStk_20, if_neg hq], fun j e' _ _ _ => rStk_o (by omega) (by omega) (by omega)⟩) ?_
  have hm : rHm (rStk s i e L) i = rHm s i := by unfold rHm; rw [rStk_n (by omega)]
  refine ⟨?_, by rw [hm]; exact s2, ?_, ?_, ?_, fun q hq => ?_, L, by omega, by rw [rStk_20, if_pos rfl], ⟨_, lr⟩, T, hT, eT, fun q hq => ?_⟩
  · rw [uv_k (by decide), hm]; exact s1
  · rw [uv_k (by decide), rStk_n (by omega)]; exact s3
  · rw [rStk_n (by omega)]; exact s4
  · rw [uv_k (by decide), rStk_n (by omega)]; exact s5
  · rw [uv_k (by decide), rStk_n (by omega)]; exact s6 q hq
  · rw [rStk_at (by decide) (by decide)]
    split
    · exact ht L (by omega)
    · exact ht q (by omega)
/-- the release of service i -/
theorem cQ.rel {A : cA} {v v' : cV} {s : rS} {i : Nat} (h : cQ A v s) (hi : i < A 2 2) (k : ∀ kd, kd ≠ 11 → v' kd = v kd) (k11o : ∀ q, ¬ (8 * i ≤ q ∧ q < 8 * i + 8) → v' 11 q = v 11 q) (k11 : ∀ q, q < 8 → v' 11 (8 * i + q) = cRl s (v 11 (8 * i + q))) : cQ A v' (rRe i 8 s) := by
  obtain ⟨s1, s2, s3, s4, s5, s6, L, hL, h20, ⟨σ, hl⟩, T, hT, eT, ht⟩ := h.2.2.2.1 i hi
  obtain ⟨q, q1, q2, eq⟩ := h.2.1.2.2.1
  obtain ⟨L', σ', g1, g2, g3, g4⟩ := lRl.rel hT q2 q1 8 s σ _ L (by omega) eT eq hL h20 hl ht (fun e h1 h2 => by omega)
  obtain ⟨r1, r2, r3, r4⟩ := rRe_o i 8 s (by omega)
  have hm : rHm (rRe i 8 s) i = rHm s i := by unfold rHm; rw [r2 16 (by omega)]
  refine h.svc (i := i) (fun kd a b c => k kd a) (fun q _ => by rw [k 19 (by decide)]) (fun q _ => by rw [k 20 (by decide)]) k11o r1 (fun j hj => r2 j (by omega)) (fun q hq => ⟨by rw [r1], by rw [r2 16 (by omega)], by rw [r2 17 (by omega)], fun k _ => by rw [r2 18 (by omega)], by rw [r2 19 (by omega)], r3 q hq, fun j e' _ _ _ => r4 j _ (by omega) (by omega)⟩) ?_
  refine ⟨?_, by rw [hm]; exact s2, ?_, ?_, ?_, fun q hq => ?_, L', g1, g2, ⟨σ', g3.cg k11 (fun _ _ _ _ _ => rfl)⟩, T, hT, by rw [r1]; exact eT, g4⟩
  · rw [k 19 (by decide), hm]; exact s1
  · rw [k 19 (by decide), r2 17 (by omega)]; exact s3
  · rw [r2 17 (by omega)]; exact s4
  · rw [k 19 (by decide), r2 19 (by omega)]; exact s5
  · rw [k 20 (by decide), r2 18 (by omega)]; exact s6 q hq
/-- the parts' bits -/
theorem bt_sub : ∀ p, p < 8 → ∀ m, m < 256 → rBit (nI m) p = true → nI m - ((1 : Int32) <<< (nI p &&& 31)) = nI m &&& ((1 <<< (nI p &&& 31)) ^^^ -1) := by decide +kernel
theorem bt_lt : ∀ p, p < 8 → ∀ m, m < 256 → ∃ m', m' < 256 ∧ nI m &&& ((1 <<< (nI p &&& 31)) ^^^ -1) = nI m' := by
  intro p hp m hm
  refine ⟨(nI m &&& ((1 <<< (nI p &&& 31)) ^^^ -1)).toNatClampNeg, ?_, ?_⟩
  · revert m
    revert p
    decide +kernel
  · revert m
    revert p
    decide +kernel
theorem bt_and : ∀ p, p < 8 → ∀ m, m < 256 → ((nI m &&& ((1 : Int32) <<< (nI p &&& 31)) = 0) ↔ ¬ rBit (nI m) p = true) := by decide +kernel
theorem bt_all0 : ∀ p, p < 9 → 2 ^ p - 1 < 256 ∧ ((1 : Int32) <<< (nI p &&& 31)) - 1 = nI (2 ^ p - 1) := by decide +kernel
theorem bt_all (p : Nat) (h : p < 9) : ∃ m, m < 256 ∧ ((1 : Int32) <<< (nI p &&& 31)) - 1 = nI m := ⟨2 ^ p - 1, bt_all0 p h⟩
