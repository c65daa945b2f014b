/-! the first text is laid -/
def T0 (p : Nat) : Nat := if p < 96 then (mv_bytes.getD p 0).toNatClampNeg else 0
def gZS (p nT nP : Nat) (M : mv_Mem) : Prop := lx M = T0 ∧ M 10 2 = nI p ∧ M 11 0 = nI nT ∧ M 11 1 = nI nP ∧ M 1 3 = nI 96
theorem gZS_fw {p nT nP : Nat} {M : mv_Mem} (h : gZS p nT nP M) (hp : p < 96) (hq : ¬ T0 p = 0) : gZS (p + 1) nT nP (fwM M) := by
  obtain ⟨h1, h2, h3, h4, h5⟩ := h
  unfold fwM
  refine ⟨by rw [lx_up (by decide) (by decide)]; exact h1, ?_, by rw [q_upO (by decide)]; exact h3, by rw [q_upO (by decide)]; exact h4, by rw [q_upO (by decide)]; exact h5⟩
  rw [q_upS, h1, h2, q_cl (by omega)]
  unfold nxF
  rw [if_neg hq]
theorem st_t {p p' nT nP : Nat} {M : mv_Mem} (h : gZS p nT nP M) (hp : p < 96) (hT : T0 p = 116) (n6 : nT < 6) (hb : tbB T0 (p + 1) = 1) (hp' : tbP T0 (p + 1) = p') : r39 M = 1 ∧ gZS p' (nT + 1) nP (m39 M) := by
  have g := gZS_fw h hp (by rw [hT]; decide)
  obtain ⟨h1, h2, h3, h4, h5⟩ := h
  obtain ⟨g1, g2, g3, g4, g5⟩ := g
  unfold r39 m39
  rw [h1, h2, q_cl (by omega), if_pos hT, if_pos hT]
  unfold r32 m32
  rw [g1, g2, g3, q_cl (show p + 1 < 2147483648 by omega), q_cl (show nT < 2147483648 by omega), if_pos ⟨hb, by omega⟩, if_pos ⟨hb, by omega⟩]
  refine ⟨rfl, ?_, ?_, ?_, ?_, ?_⟩
  · unfold atM thM
    rw [lx_up (by decide) (by decide), lx_up (by decide) (by decide), lx_up (by decide) (by decide), lx_up (by decide) (by decide), lx_up (by decide) (by decide), lx_up (by decide) (by decide), lx_up (by decide) (by decide), lx_up (by decide) (by decide), lx_up (by decide) (by decide), lx_up (by decide) (by decide), lx_up (by decide) (by decide), lx_up (by decide) (by decide)]
    exact g1
  · rw [q_upS, hp']
  · rw [q_upO (by decide)]
    unfold atM
    rw [q_upS]
  · unfold atM thM
    simp (disch := decide) only [q_upO, q_upN]
    exact g4
  · unfold atM thM
    rw [q_upO (by decide), q_upO (by decide), q_upO (by decide), q_upO (by decide), q_upO (by decide), q_upO (by decide), q_upO (by decide), q_upO (by decide), q_upO (by decide), q_upO (by decide), q_upO (by decide), q_upO (by decide)]
    exact g5
theorem st_p {p p' nT nP : Nat} {M : mv_Mem} (h : gZS p nT nP M) (hp : p < 96) (hT : T0 p = 112) (n6 : nP < 6) (n7 : nT ≤ 6) (hb : pkC T0 nT (p + 1) = 1) (hp' : pkP T0 nT (p + 1) = p') : r39 M = 1 ∧ gZS p' nT (nP + 1) (m39 M) := by
  have g := gZS_fw h hp (by rw [hT]; decide)
  obtain ⟨h1, h2, h3, h4, h5⟩ := h
  obtain ⟨g1, g2, g3, g4, g5⟩ := g
  unfold r39 m39
  rw [h1, h2, q_cl (by omega), if_neg (show ¬ T0 p = 116 by rw [hT]; decide), if_neg (show ¬ T0 p = 116 by rw [hT]; decide), if_pos hT, if_pos hT]
  unfold r34 m34
  rw [g1, g2, g3, g4, q_cl (show p + 1 < 2147483648 by omega), q_cl (show nT < 2147483648 by omega), q_cl (show nP < 2147483648 by omega), if_pos ⟨hb, by omega⟩, if_pos ⟨hb, by omega⟩]
  refine ⟨rfl, ?_, ?_, ?_, ?_, ?_⟩
  · rw [lx_up (by decide) (by decide), lx_up (by decide) (by decide), lx_up (by decide) (by decide)]
    exact g1
  · rw [q_upS, hp']
  · rw [q_upO (by decide), q_upN (by decide), q_upO (by decide)]
    exact g3
  · rw [q_upO (by decide), q_upS]
  · rw [q_upO (by decide), q_upO (by decide), q_upO (by decide)]
    exact g5
theorem st_l {p p' nT nP : Nat} {M : mv_Mem} (h : gZS p nT nP M) (hp : p < 96) (hT : T0 p = 108) (hb : lmB T0 (p + 1) = 1) (hp' : lmP T0 (p + 1) = p') : r39 M = 1 ∧ gZS p' nT nP (m39 M) := by
  have g := gZS_fw h hp (by rw [hT]; decide)
  obtain ⟨h1, h2, h3, h4, h5⟩ := h
  obtain ⟨g1, g2, g3, g4, g5⟩ := g
  unfold r39 m39
  rw [h1, h2, q_cl (by omega), if_neg (show ¬ T0 p = 116 by rw [hT]; decide), if_neg (show ¬ T0 p = 116 by rw [hT]; decide), if_neg (show ¬ T0 p = 112 by rw [hT]; decide), if_neg (show ¬ T0 p = 112 by rw [hT]; decide), if_pos hT, if_pos hT]
  unfold r35 m35
  rw [g1, g2, q_cl (show p + 1 < 2147483648 by omega), if_pos hb]
  refine ⟨hb, ?_, ?_, ?_, ?_, ?_⟩
  · rw [lx_up (by decide) (by decide), lx_up (by decide) (by decide)]
    exact g1
  · rw [q_upS, hp']
  · rw [q_upO (by decide), q_upN (by decide)]
    exact g3
  · rw [q_upO (by decide), q_upN (by decide)]
    exact g4
  · rw [q_upO (by decide), q_upO (by decide)]
    exact g5
theorem dr0 (M : mv_Mem) : ∃ N, drF T0 4 8 0 87 M = (1, 95, 4, N) ∧ lx N = lx M ∧ N 11 0 = M 11 0 ∧ N 11 1 = M 11 1 ∧ N 1 = M 1 := by
  have a0 : T0 87 = 48 := by decide +kernel
  have a1 : T0 88 = 102 := by decide +kernel
  have a2 : T0 89 = 49 := by decide +kernel
  have a3 : T0 90 = 102 := by decide +kernel
  have a4 : T0 91 = 50 := by decide +kernel
  have a5 : T0 92 = 98 := by decide +kernel
  have a6 : T0 93 = 48 := by decide +kernel
  have a7 : T0 94 = 102 := by decide +kernel
  have a8 : T0 95 = 59 := by decide +kernel
  have f0 : fgF T0 87 = 1 := by decide +kernel
  have f1 : fgF T0 89 = 2 := by decide +kernel
  have f2 : fgF T0 91 = 3 := by decide +kernel
  have f3 : fgF T0 93 = 1 := by decide +kernel
  refine ⟨mv_up (mv_up (mv_up (mv_up (mv_up (mv_up (mv_up (mv_up M 17 0 (nI (10 * (1 - 1) + 0))) 11 2 (nI (0 + 1))) 17 1 (nI (10 * (2 - 1) + 0))) 11 2 (nI (1 + 1))) 17 2 (nI (10 * (3 - 1) + 1))) 11 2 (nI (2 + 1))) 17 3 (nI (10 * (1 - 1) + 0))) 11 2 (nI (3 + 1)), ?_, ?_, ?_, ?_, ?_⟩
  · unfold drF
    rw [if_neg (by rw [a0]; decide), if_neg (by rw [f0]; decide), if_neg (by rw [f0]; decide), if_pos (show T0 (87 + 1) = 102 from a1), f0]
    unfold drF
    rw [if_neg (by rw [a2]; decide), if_neg (by rw [f1]; decide), if_neg (by rw [f1]; decide), if_pos (show T0 (87 + 1 + 1 + 1) = 102 from a3), f1]
    unfold drF
    rw [if_neg (by rw [a4]; decide), if_neg (by rw [f2]; decide), if_neg (by rw [f2]; decide), if_neg (by rw [a5]; decide), if_pos (show T0 (87 + 1 + 1 + 1 + 1 + 1) = 98 from a5), f2]
    unfold drF
    rw [if_neg (by rw [a6]; decide), if_neg (by rw [f3]; decide), if_neg (by rw [f3]; decide), if_pos (show T0 (87 + 1 + 1 + 1 + 1 + 1 + 1 + 1) = 102 from a7), f3]
    unfold drF
    rw [if_pos (show T0 (87 + 1 + 1 + 1 + 1 + 1 + 1 + 1 + 1) = 59 from a8)]
  · rw [lx_up (by decide) (by decide), lx_up (by decide) (by decide), lx_up (by decide) (by decide), lx_up (by decide) (by decide), lx_up (by decide) (by decide), lx_up (by decide) (by decide), lx_up (by decide) (by decide), lx_up (by decide) (by decide)]
  · rw [q_upN (by decide), q_upO (by decide), q_upN (by decide), q_upO (by decide), q_upN (by decide), q_upO (by decide), q_upN (by decide), q_upO (by decide)]
  · rw [q_upN (by decide), q_upO (by decide), q_upN (by decide), q_upO (by decide), q_upN (by decide), q_upO (by decide), q_upN (by decide), q_upO (by decide)]
  · rw [q_upO (by decide), q_upO (by decide), q_upO (by decide), q_upO (by decide), q_upO (by decide), q_upO (by decide), q_upO (by decide), q_upO (by decide)]
theorem st_d {M : mv_Mem} (h : gZS 86 6 4 M) : r39 M = 1 ∧ gZS 96 6 4 (m39 M) := by
  have hT : T0 86 = 100 := by decide +kernel
  have g := gZS_fw h (by decide) (by rw [hT]; decide)
  obtain ⟨h1, h2, h3, h4, h5⟩ := h
  obtain ⟨g1, g2, g3, g4, g5⟩ := g
  unfold r39 m39
  rw [h1, h2, q_cl (by omega), if_neg (show ¬ T0 86 = 116 by rw [hT]; decide), if_neg (show ¬ T0 86 = 116 by rw [hT]; decide), if_neg (show ¬ T0 86 = 112 by rw [hT]; decide), if_neg (show ¬ T0 86 = 112 by rw [hT]; decide), if_neg (show ¬ T0 86 = 108 by rw [hT]; decide), if_neg (show ¬ T0 86 = 108 by rw [hT]; decide), if_pos hT, if_pos hT]
  obtain ⟨N, e, n1, n2, n3, n4⟩ := dr0 (mv_up (fwM M) 11 2 (nI 0))
  have eR : drR (fwM M) = (1, 95, 4, N) := by
    unfold drR
    rw [g1, g2, g4, q_cl (by decide), q_cl (by decide)]
    exact e
  rw [lx_up (by decide) (by decide)] at n1
  rw [q_upN (by decide)] at n2 n3
  rw [q_upO (by decide)] at n4
  have a8 : T0 95 = 59 := by decide +kernel
  unfold r38 m38 p38
  rw [eR, g1]
  dsimp only
  rw [if_neg (by decide), if_neg (by decide), if_pos a8, if_neg (by decide), if_neg (by decide)]
  refine ⟨rfl, ?_, ?_, ?_, ?_, ?_⟩
  · rw [lx_up (by decide) (by decide), n1]; exact g1
  · rw [q_upS]; unfold nxF; rw [a8, if_neg (by decide)]
  · rw [q_upO (by decide), n2]; exact g3
  · rw [q_upO (by decide), n3]; exact g4
  · rw [q_upO (by decide), n4]; exact g5
theorem rt_st {n p : Nat} {M : mv_Mem} (hp : M 10 2 = nI p) (hl : M 1 3 = nI 96) (h96 : p < 96) (hr : r39 M = 1) : rtF (n + 1) M = rtF n (m39 M) := by
  rw [rtF, hp, hl, q_cl (by omega), q_cl (by decide), if_pos h96, if_neg (by rw [hr]; decide)]
theorem ly_1 {M : mv_Mem} (h3 : M 1 3 = nI 96) (h61 : ∀ j, j < 96 → M 61 j = mv_bytes.getD j 0) : lyN M = 1 := by
  have hl : lx M = T0 := by
    funext p
    unfold lx T0
    rw [h3, q_cl (by decide)]
    by_cases c : p < 96
    · rw [if_pos c, if_pos c, h61 p c]
    · rw [if_neg c, if_neg c]
  have g0 : gZS 0 0 0 (rt0 M) := by
    unfold rt0 clM
    refine ⟨?_, ?_, ?_, ?_, ?_⟩
    · rw [lx_up (by decide) (by decide), lx_up (by decide) (by decide), lx_up (by decide) (by decide), lx_up (by decide) (by decide), lx_up (by decide) (by decide)]
      exact hl
    · rw [q_upO (by decide), q_upO (by decide), q_upO (by decide), q_upO (by decide), q_upS]
    · rw [q_upN (by decide), q_upN (by decide), q_upN (by decide), q_upS]
    · rw [q_upN (by decide), q_upN (by decide), q_upS]
    · rw [q_upO (by decide), q_upO (by decide), q_upO (by decide), q_upO (by decide), q_upO (by decide)]
      exact h3
  have fin : ∀ M : mv_Mem, gZS 96 6 4 M → ∀ n, rtF n M = (Int32.ofInt (-4), M) := by
    intro M g n
    cases n with
    | zero => rfl
    | succ n => rw [rtF, g.2.1, g.2.2.2.2, if_neg (by decide)]
  have e : ∃ N, tdM M = (Int32.ofInt (-4), N) ∧ N 11 0 = nI 6 ∧ N 11 1 = nI 4 := by
    unfold tdM
    generalize rt0 M = A at g0 ⊢
    obtain ⟨r, g1⟩ := st_t (p' := 10) g0 (by decide) (by decide +kernel) (by decide) (by decide +kernel) (by decide +kernel)
    rw [rt_st g0.2.1 g0.2.2.2.2 (by decide) r]
    generalize m39 A = A at g1 ⊢
    obtain ⟨r, g2⟩ := st_t (p' := 20) g1 (by decide) (by decide +kernel) (by decide) (by decide +kernel) (by decide +kernel)
    rw [rt_st g1.2.1 g1.2.2.2.2 (by decide) r]
    generalize m39 A = A at g2 ⊢
    obtain ⟨r, g3⟩ := st_t (p' := 30) g2 (by decide) (by decide +kernel) (by decide) (by decide +kernel) (by decide +kernel)
    rw [rt_st g2.2.1 g2.2.2.2.2 (by decide) r]
    generalize m39 A = A at g3 ⊢
    obtain ⟨r, g4⟩ := st_t (p' := 40) g3 (by decide) (by decide +kernel) (by decide) (by decide +kernel) (by decide +kernel)
    rw [rt_st g3.2.1 g3.2.2.2.2 (by decide) r]
    generalize m39 A = A at g4 ⊢
    obtain ⟨r, g5⟩ := st_t (p' := 50) g4 (by decide) (by decide +kernel) (by decide) (by decide +kernel) (by decide +kernel)
    rw [rt_st g4.2.1 g4.2.2.2.2 (by decide) r]
    generalize m39 A = A at g5 ⊢
    obtain ⟨r, g6⟩ := st_t (p' := 60) g5 (by decide) (by decide +kernel) (by decide) (by decide +kernel) (by decide +kernel)
    rw [rt_st g5.2.1 g5.2.2.2.2 (by decide) r]
    generalize m39 A = A at g6 ⊢
    obtain ⟨r, g7⟩ := st_p (p' := 68) g6 (by decide) (by decide +kernel) (by decide) (by decide) (by decide +kernel) (by decide +kernel)
    rw [rt_st g6.2.1 g6.2.2.2.2 (by decide) r]
    generalize m39 A = A at g7 ⊢
    obtain ⟨r, g8⟩ := st_p (p' := 73) g7 (by decide) (by decide +kernel) (by decide) (by decide) (by decide +kernel) (by decide +kernel)
    rw [rt_st g7.2.1 g7.2.2.2.2 (by decide) r]
    generalize m39 A = A at g8 ⊢
    obtain ⟨r, g9⟩ := st_p (p' := 78) g8 (by decide) (by decide +kernel) (by decide) (by decide) (by decide +kernel) (by decide +kernel)
    rw [rt_st g8.2.1 g8.2.2.2.2 (by decide) r]
    generalize m39 A = A at g9 ⊢
    obtain ⟨r, g10⟩ := st_p (p' := 82) g9 (by decide) (by decide +kernel) (by decide) (by decide) (by decide +kernel) (by decide +kernel)
    rw [rt_st g9.2.1 g9.2.2.2.2 (by decide) r]
    generalize m39 A = A at g10 ⊢
    obtain ⟨r, g11⟩ := st_l (p' := 86) g10 (by decide) (by decide +kernel) (by decide +kernel) (by decide +kernel)
    rw [rt_st g10.2.1 g10.2.2.2.2 (by decide) r]
    generalize m39 A = A at g11 ⊢
    obtain ⟨r, g12⟩ := st_d g11
    rw [rt_st g11.2.1 g11.2.2.2.2 (by decide) r]
    generalize m39 A = A at g12 ⊢
    exact ⟨A, fin A g12 _, g12.2.2.1, g12.2.2.2.1⟩
  obtain ⟨N, e, n0, n1⟩ := e
  exact if_pos ⟨by rw [e], by rw [e]; show ¬ N 11 0 = nI 0; rw [n0]; decide, by rw [e]; show ¬ N 11 1 = nI 0; rw [n1]; decide⟩
