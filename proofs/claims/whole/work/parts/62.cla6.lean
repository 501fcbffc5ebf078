/-! a session's try -/
theorem cC1.up {A : cA} {v : cV} {s s' : rS} {c : Nat} {g : Nat → Int32} (h : cC1 A v s c) (e26 : s'.2 26 c = s.2 26 c) (e27 : s'.2 27 c = s.2 27 c) (g0 : g 0 = v 22 c 0) (g1 : g 1 = v 22 c 1) (f : g 3 = s'.2 28 c ∧ g 4 = s'.2 29 c ∧ g 5 = s'.2 30 c - 1 ∧ g 6 = s'.2 31 c ∧ g 7 = s'.2 32 c ∧ g 8 = s'.2 33 c ∧ g 9 = s'.2 34 c ∧ g 10 = s'.2 35 c ∧ g 11 = s'.2 36 c ∧ g 12 = s'.2 37 c) (b28 : s'.2 28 c = 0 ∨ s'.2 28 c = 1) (b29 : s'.2 28 c = 0 → ∃ j, j < 5 ∧ s'.2 29 c = nI j) (b34 : ∃ m, m < 256 ∧ s'.2 34 c = nI m) (b32 : ∃ q, q < 8 ∧ s'.2 32 c = nI q) : cC1 A (uv v 22 c g) s' c := by
  have a : rCn s' c = rCn s c := by unfold rCn; rw [e26]
  have b : rSv s' c = rSv s c := by unfold rSv; rw [e27]
  unfold cC1
  rw [uv_s, a, b, g0, g1]
  exact ⟨h.1, f, b28, b29, b34, b32⟩
/-- the parts that are missing -/
theorem cQ.mis {A : cA} {v : cV} {s : rS} {c m : Nat} {x : Int32} (h : cQ A v s) (hc : c < A 2 3) (hm : m < 256) (ex : x = nI m) : cQ A (uv v 22 c (w [v 22 c 0, v 22 c 1, 0, v 22 c 3, v 22 c 4, v 22 c 5, v 22 c 6, v 22 c 7, v 22 c 8, x, v 22 c 10, v 22 c 11, v 22 c 12])) (s.1, up2 s.2 34 c x) := by
  have k := h.2.2.2.2 c hc
  obtain ⟨_, ⟨f3, f4, f5, f6, f7, f8, f9, f10, f11, f12⟩, b28, b29, b34, b32⟩ := id k
  refine h.ses rfl (fun j hj => up2_n (by omega)) (fun j q hq => up2_off hq) (k.up (by simp [up2]) (by simp [up2]) rfl rfl ?_ ?_ ?_ ?_ ?_)
  · simp only [w, List.getD_cons_zero, List.getD_cons_succ, up2, Nat.reduceEqDiff, if_false, if_true]
    exact ⟨f3, f4, f5, f6, f7, f8, trivial, f10, f11, f12⟩
  · simpa [up2] using b28
  · simpa [up2] using b29
  · exact ⟨m, hm, by simp [up2, ex]⟩
  · simpa [up2] using b32
/-- a try is counted -/
theorem cQ.trd {A : cA} {v : cV} {s : rS} {c : Nat} (h : cQ A v s) (hc : c < A 2 3) : cQ A (uv v 22 c (w [v 22 c 0, v 22 c 1, 0, v 22 c 3, v 22 c 4, v 22 c 5, v 22 c 6, v 22 c 7, v 22 c 8, v 22 c 9, v 22 c 10 + 1, s.1 21, v 22 c 12])) (rAt1 s c) := by
  have k := h.2.2.2.2 c hc
  obtain ⟨_, ⟨f3, f4, f5, f6, f7, f8, f9, f10, f11, f12⟩, b28, b29, b34, b32⟩ := id k
  have n : ∀ j, j ≠ 35 → j ≠ 36 → (rAt1 s c).2 j = s.2 j := fun j a b => by unfold rAt1; dsimp only; rw [up2_n b, up2_n a]
  have o : ∀ j q, q ≠ c → (rAt1 s c).2 j q = s.2 j q := fun j q hq => by unfold rAt1; dsimp only; rw [up2_off hq, up2_off hq]
  have x35 : (rAt1 s c).2 35 c = s.2 35 c + 1 := by simp [rAt1, up2]
  have x36 : (rAt1 s c).2 36 c = s.1 21 := by simp [rAt1, up2]
  refine h.ses rfl (fun j hj => n j (by omega) (by omega)) o (k.up (by rw [n 26 (by decide) (by decide)]) (by rw [n 27 (by decide) (by decide)]) rfl rfl ?_ ?_ ?_ ?_ ?_)
  · rw [n 28 (by decide) (by decide), n 29 (by decide) (by decide), n 30 (by decide) (by decide), n 31 (by decide) (by decide), n 32 (by decide) (by decide), n 33 (by decide) (by decide), n 34 (by decide) (by decide), n 37 (by decide) (by decide), x35, x36]
    exact ⟨f3, f4, f5, f6, f7, f8, f9, by rw [← f10]; rfl, rfl, f12⟩
  · rw [n 28 (by decide) (by decide)]; exact b28
  · rw [n 28 (by decide) (by decide), n 29 (by decide) (by decide)]; exact b29
  · rw [n 34 (by decide) (by decide)]; exact b34
  · rw [n 32 (by decide) (by decide)]; exact b32
/-- a command is done -/
theorem cQ.don {A : cA} {v : cV} {s : rS} {c : Nat} {x : Int32} (h : cQ A v s) (hc : c < A 2 3) : cQ A (uv v 22 c (w [v 22 c 0, v 22 c 1, 0, v 22 c 3, v 22 c 4, v 22 c 5, 2, v 22 c 7, v 22 c 8, v 22 c 9, v 22 c 10, v 22 c 11, x])) (s.1, up2 (up2 s.2 31 c 2) 37 c x) := by
  have k := h.2.2.2.2 c hc
  obtain ⟨_, ⟨f3, f4, f5, f6, f7, f8, f9, f10, f11, f12⟩, b28, b29, b34, b32⟩ := id k
  refine h.ses rfl (fun j hj => by dsimp only; rw [up2_n (by omega), up2_n (by omega)]) (fun j q hq => by dsimp only; rw [up2_off hq, up2_off hq]) (k.up (by simp [up2]) (by simp [up2]) rfl rfl ?_ ?_ ?_ ?_ ?_)
  · simp only [w, List.getD_cons_zero, List.getD_cons_succ, up2, Nat.reduceEqDiff, if_false, if_true]
    exact ⟨f3, f4, f5, trivial, f7, f8, f9, f10, f11, trivial⟩
  · simpa [up2] using b28
  · simpa [up2] using b29
  · simpa [up2] using b34
  · simpa [up2] using b32
/-- a command has failed -/
theorem cQ.fai {A : cA} {v : cV} {s : rS} {c : Nat} (h : cQ A v s) (hc : c < A 2 3) : cQ A (uv v 22 c (w [v 22 c 0, v 22 c 1, 0, v 22 c 3, v 22 c 4, v 22 c 5, 3, v 22 c 7, v 22 c 8, v 22 c 9, v 22 c 10, v 22 c 11, v 22 c 12])) (s.1, up2 s.2 31 c 3) := by
  have k := h.2.2.2.2 c hc
  obtain ⟨_, ⟨f3, f4, f5, f6, f7, f8, f9, f10, f11, f12⟩, b28, b29, b34, b32⟩ := id k
  refine h.ses rfl (fun j hj => up2_n (by omega)) (fun j q hq => up2_off hq) (k.up (by simp [up2]) (by simp [up2]) rfl rfl ?_ ?_ ?_ ?_ ?_)
  · simp only [w, List.getD_cons_zero, List.getD_cons_succ, up2, Nat.reduceEqDiff, if_false, if_true]
    exact ⟨f3, f4, f5, trivial, f7, f8, f9, f10, f11, f12⟩
  · simpa [up2] using b28
  · simpa [up2] using b29
  · simpa [up2] using b34
  · simpa [up2] using b32
/-- a command begins -/
theorem cQ.beg {A : cA} {v : cV} {s : rS} {c q p : Nat} {x : Int32} (h : cQ A v s) (hc : c < A 2 3) (hq : q < 8) (hp : p < 9) : cQ A (uv v 22 c (cBg (v 22 c) (nI q) x (nI p))) (rCm1 s c (nI q) x (nI p)) := by
  have k := h.2.2.2.2 c hc
  obtain ⟨_, ⟨f3, f4, f5, f6, f7, f8, f9, f10, f11, f12⟩, b28, b29, b34, b32⟩ := id k
  have o : ∀ j q', q' ≠ c → (rCm1 s c (nI q) x (nI p)).2 j q' = s.2 j q' := fun j q' hq' => by unfold rCm1; dsimp only; rw [up2_off hq', up2_off hq', up2_off hq', up2_off hq', up2_off hq', up2_off hq']
  have n : ∀ j, j < 30 ∨ 35 < j → (rCm1 s c (nI q) x (nI p)).2 j = s.2 j := fun j hj => by unfold rCm1; dsimp only; rw [up2_n (by omega), up2_n (by omega), up2_n (by omega), up2_n (by omega), up2_n (by omega), up2_n (by omega)]
  have y : (rCm1 s c (nI q) x (nI p)).2 30 c = s.2 30 c + 1 ∧ (rCm1 s c (nI q) x (nI p)).2 31 c = 1 ∧ (rCm1 s c (nI q) x (nI p)).2 32 c = nI q ∧ (rCm1 s c (nI q) x (nI p)).2 33 c = x ∧ (rCm1 s c (nI q) x (nI p)).2 34 c = (1 <<< (nI p &&& 31)) - 1 ∧ (rCm1 s c (nI q) x (nI p)).2 35 c = 0 := by simp [rCm1, up2]
  obtain ⟨y30, y31, y32, y33, y34, y35⟩ := y
  refine h.ses rfl (fun j hj => n j (by omega)) o (k.up (by rw [n 26 (by decide)]) (by rw [n 27 (by decide)]) rfl rfl ?_ ?_ ?_ ?_ ?_)
  · rw [n 28 (by decide), n 29 (by decide), n 36 (by decide), n 37 (by decide), y30, y31, y32, y33, y34, y35]
    refine ⟨f3, f4, ?_, rfl, rfl, rfl, rfl, rfl, f11, f12⟩
    show v 22 c 5 + 1 = _
    rw [f5]
    simp
  · rw [n 28 (by decide)]; exact b28
  · rw [n 28 (by decide), n 29 (by decide)]; exact b29
  · rw [y34]; exact bt_all p hp
  · exact ⟨q, hq, y32⟩
/-- what a session hears -/
theorem cQ.hea {A : cA} {v : cV} {s : rS} {c R : Nat} {j : Int32} (h : cQ A v s) (hc : c < A 2 3) (op : s.2 28 c = 0) (hj : j = if rWay s R (rCn s c) (rSn s c) < 0 ∨ rWay s R (rSn s c) (rCn s c) < 0 then 0 else 1) : cQ A (uv v 22 c (cHr (v 22 c) j)) (rSil s R c) := by
  have k := h.2.2.2.2 c hc
  obtain ⟨_, ⟨f3, f4, f5, f6, f7, f8, f9, f10, f11, f12⟩, b28, b29, b34, b32⟩ := id k
  obtain ⟨d, hd, ed⟩ := b29 op
  have es : (if j = 0 then v 22 c 4 + 1 else 0) = rSilV s R c := by
    unfold rSilV
    rw [hj, f4]
    by_cases z : rWay s R (rCn s c) (rSn s c) < 0 ∨ rWay s R (rSn s c) (rCn s c) < 0
    · rw [if_pos z, if_pos z, if_pos rfl]
    · rw [if_neg z, if_neg z, if_neg (by decide)]
  obtain ⟨e, he, ee⟩ : ∃ e, e < 6 ∧ rSilV s R c = nI e := by
    unfold rSilV
    split
    · exact ⟨d + 1, by omega, by rw [ed, nI_1]⟩
    · exact ⟨0, by decide, rfl⟩
  have lt5 : (rSilV s R c < 5) ↔ ¬ rSilV s R c = 5 := by
    rw [ee, show (5 : Int32) = nI 5 from rfl, nI_lti (by omega) (by omega), nI_eqi (by omega) (by omega)]
    omega
  unfold cHr
  rw [es]
  by_cases z : rSilV s R c = 5
  · have eq : rSil s R c = (s.1, up2 (up2 (up2 s.2 29 c (rSilV s R c)) 28 c 1) 31 c (if s.2 31 c = 1 then 3 else s.2 31 c)) := by unfold rSil; rw [if_neg (fun y => y op), if_pos z]
    rw [if_neg (fun y => lt5.mp y z), eq]
    refine h.ses rfl (fun j hj => by dsimp only; rw [up2_n (by omega), up2_n (by omega), up2_n (by omega)]) (fun j q hq => by dsimp only; rw [up2_off hq, up2_off hq, up2_off hq]) (k.up (by simp [up2]) (by simp [up2]) rfl rfl ?_ ?_ ?_ ?_ ?_)
    · simp only [w, List.getD_cons_zero, List.getD_cons_succ, up2, Nat.reduceEqDiff, if_false, if_true]
      exact ⟨trivial, trivial, f5, by rw [f6], f7, f8, f9, f10, f11, f12⟩
    · right; simp [up2]
    · intro y; exfalso; simp [up2] at y
    · simpa [up2] using b34
    · simpa [up2] using b32
  · have eq : rSil s R c = (s.1, up2 s.2 29 c (rSilV s R c)) := by unfold rSil; rw [if_neg (fun y => y op), if_neg z]
    rw [if_pos (lt5.mpr z), eq]
    refine h.ses rfl (fun j hj => up2_n (by omega)) (fun j q hq => up2_off hq) (k.up (by simp [up2]) (by simp [up2]) rfl rfl ?_ ?_ ?_ ?_ ?_)
    · simp only [w, List.getD_cons_zero, List.getD_cons_succ, up2, Nat.reduceEqDiff, if_false, if_true]
      exact ⟨f3, trivial, f5, f6, f7, f8, f9, f10, f11, f12⟩
    · simpa [up2] using b28
    · intro _
      refine ⟨e, ?_, by simp [up2, ee]⟩
      have : e ≠ 5 := fun y => z (by rw [ee, y]; rfl)
      omega
    · simpa [up2] using b34
    · simpa [up2] using b32
