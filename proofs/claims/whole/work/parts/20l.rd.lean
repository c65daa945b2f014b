/-! laying -/
def laF (N N' : mv_Mem) : Prop := N' 0 3 = N 0 19 ∧ N' 0 7 = N 0 23 ∧ N' 0 9 = N 0 25 ∧ N' 0 10 = N 0 26 ∧ N' 0 1 = nI 0 ∧ N' 0 2 = nI 0 ∧ N' 0 14 = nI 0 ∧
  (∀ t, t < 6 → N' 2 t = N 10 t) ∧ (∀ i, i < 24 → N' 3 i = N 12 i) ∧ (∀ p, p < 6 → N' 5 p = N 13 p) ∧ (∀ k, k < 8 → N' 6 k = N 14 k) ∧
  (∀ j, j < 799 → N' 1 j = if j < 6 then (if j < (N 0 19).toNatClampNeg then N 11 j else nI 0) else if 24 ≤ j ∧ j < 30 then Int32.ofInt (-4) else nI 0)
theorem laE_F {N N' : mv_Mem} (h : laE N N') : laF N N' := by
  obtain ⟨a1, a2, a3, a4, a5, a6, a7, a8, a9, b1, b2, b3, b4, b5⟩ := h
  exact ⟨a1, a2, a3, a4, a5, a6, a7, b1, b2, b3, b4, b5⟩
theorem stM_fig {M : mv_Mem} {t : Nat} (ht : t < 6) : stM M 18 3 19 (t * 5 + 3) = M 5 t ∧ stM M 18 3 19 (t * 5 + 0) = nI 0 ∧ stM M 18 3 19 (t * 5 + 1) = nI 0 ∧ stM M 18 3 19 (t * 5 + 2) = nI 0 ∧ stM M 18 3 19 (t * 5 + 4) = nI 0 := by
  have z : ∀ j, j < 30 → fiM M (18 + 1) (nI 0) 30 19 j = nI 0 := fun j hj => fiM_in 30 j hj
  have e : ∀ j, stM M 18 3 19 j = if j = 5 * 5 + 3 then M 5 5 else if j = 4 * 5 + 3 then M 5 4 else if j = 3 * 5 + 3 then M 5 3 else if j = 2 * 5 + 3 then M 5 2 else if j = 1 * 5 + 3 then M 5 1 else if j = 0 * 5 + 3 then M 5 0 else fiM M (18 + 1) (nI 0) 30 19 j := by
    intro j
    unfold stM
    rw [q_upO (by decide)]
    by_cases c5 : j = 5 * 5 + 3
    · subst c5; rw [if_pos rfl, q_upS]
    rw [if_neg c5, q_upN (by omega)]
    by_cases c4 : j = 4 * 5 + 3
    · subst c4; rw [if_pos rfl, q_upS]
    rw [if_neg c4, q_upN (by omega)]
    by_cases c3 : j = 3 * 5 + 3
    · subst c3; rw [if_pos rfl, q_upS]
    rw [if_neg c3, q_upN (by omega)]
    by_cases c2 : j = 2 * 5 + 3
    · subst c2; rw [if_pos rfl, q_upS]
    rw [if_neg c2, q_upN (by omega)]
    by_cases c1 : j = 1 * 5 + 3
    · subst c1; rw [if_pos rfl, q_upS]
    rw [if_neg c1, q_upN (by omega)]
    by_cases c0 : j = 0 * 5 + 3
    · subst c0; rw [if_pos rfl, q_upS]
    rw [if_neg c0, q_upN (by omega)]
  have o : t = 0 ∨ t = 1 ∨ t = 2 ∨ t = 3 ∨ t = 4 ∨ t = 5 := by omega
  refine ⟨?_, ?_, ?_, ?_, ?_⟩
  · rw [e]
    rcases o with rfl | rfl | rfl | rfl | rfl | rfl <;> rfl
  · rw [e, if_neg (by omega), if_neg (by omega), if_neg (by omega), if_neg (by omega), if_neg (by omega), if_neg (by omega), z _ (by omega)]
  · rw [e, if_neg (by omega), if_neg (by omega), if_neg (by omega), if_neg (by omega), if_neg (by omega), if_neg (by omega), z _ (by omega)]
  · rw [e, if_neg (by omega), if_neg (by omega), if_neg (by omega), if_neg (by omega), if_neg (by omega), if_neg (by omega), z _ (by omega)]
  · rw [e, if_neg (by omega), if_neg (by omega), if_neg (by omega), if_neg (by omega), if_neg (by omega), if_neg (by omega), z _ (by omega)]
theorem cpy0 {R S : Nat → Int32} {n j : Nat} (h : j < n) : va_cpy R S 0 0 n j = R j := by
  have := @cpy_in R S 0 0 n j h
  rw [Nat.zero_add] at this
  exact this
theorem lc_cells {T : mv_Mem} : (lcM T 3 11 3 0 = T 11 0 ∧ lcM T 3 11 3 1 = T 11 1 ∧ lcM T 3 11 3 2 = T 11 2 ∧ lcM T 3 11 3 3 = T 11 3) ∧ (∀ t, t < 6 → lcM T 3 11 4 t = T 12 t) ∧ (∀ t, t < 6 → lcM T 3 11 5 t = T 13 t) ∧ (∀ i, i < 24 → lcM T 3 11 6 i = T 14 i) ∧ (∀ i, i < 24 → lcM T 3 11 7 i = T 15 i) ∧ (∀ p, p < 6 → lcM T 3 11 8 p = T 16 p) ∧ (∀ k, k < 8 → lcM T 3 11 9 k = T 17 k) := by
  have d3 : ∀ j, lcM T 3 11 3 j = (mv_up (mv_up (mv_up (mv_up T 3 0 (T 11 0)) 3 1 (T 11 1)) 3 2 (T 11 2)) 3 3 (T 11 3)) 3 j := fun j => by
    unfold lcM
    rw [q_wrO (by decide), q_wrO (by decide), q_wrO (by decide), q_wrO (by decide), q_wrO (by decide), q_wrO (by decide)]
  refine ⟨⟨?_, ?_, ?_, ?_⟩, fun t ht => ?_, fun t ht => ?_, fun t ht => ?_, fun t ht => ?_, fun t ht => ?_, fun t ht => ?_⟩
  · rw [d3, q_upN (by decide), q_upN (by decide), q_upN (by decide), q_upS]
  · rw [d3, q_upN (by decide), q_upN (by decide), q_upS]
  · rw [d3, q_upN (by decide), q_upS]
  · rw [d3, q_upS]
  · unfold lcM
    rw [q_wrO (by decide), q_wrO (by decide), q_wrO (by decide), q_wrO (by decide), q_wrO (by decide), q_wrS]
    exact cpy0 ht
  · unfold lcM
    rw [q_wrO (by decide), q_wrO (by decide), q_wrO (by decide), q_wrO (by decide), q_wrS]
    exact cpy0 ht
  · unfold lcM
    rw [q_wrO (by decide), q_wrO (by decide), q_wrO (by decide), q_wrS]
    exact cpy0 ht
  · unfold lcM
    rw [q_wrO (by decide), q_wrO (by decide), q_wrS]
    exact cpy0 ht
  · unfold lcM
    rw [q_wrO (by decide), q_wrS]
    exact cpy0 ht
  · unfold lcM
    rw [q_wrS]
    exact cpy0 ht
/-- all but the text -/
def LPR (X N : mv_Mem) : Prop := loR X N ∧ RR_cl X N ∧ RR_un X N ∧ RR_ri X N ∧ RR_ke X N ∧ RR_se X N ∧ RR_st X N ∧ RR_gl X N
theorem lay_LP {X X' N N' : mv_Mem} (h1 : tX X) (h2 : gL X 11) (hl : lyN X = 1) (hX : ∀ b, ¬ b = 1 → X' b = m46 X b) (rb : rB (tdM X).2 N) (la : laF N N') (he : ∃ e, e < 8 ∧ X 0 6 &&& nI 7 = nI e) (ri : RR_ri X N) (st : sT X 57) : LPR X' N' := by
  obtain ⟨-, -, gT⟩ := iL_td h1 h2
  have hl' : (tdM X).1 = Int32.ofInt (-4) ∧ ¬ (tdM X).2 11 0 = nI 0 ∧ ¬ (tdM X).2 11 1 = nI 0 := by
    unfold lyN at hl
    by_cases c : (tdM X).1 = Int32.ofInt (-4) ∧ ¬ (tdM X).2 11 0 = nI 0 ∧ ¬ (tdM X).2 11 1 = nI 0
    · exact c
    · rw [if_neg c] at hl; exact absurd hl (by decide)
  have e46 : m46 X = mv_up (mv_up (mv_up (stM (lcM (tdM X).2 3 11) 18 3) 0 11 (nI 0)) 0 7 (nI 0)) 0 9 (nI 0) := by
    unfold m46
    rw [if_pos hl]
  have eo : ∀ b, b < 10 ∨ 17 < b → (tdM X).2 b = X b := fun b hb => tdM_o hb
  generalize (tdM X).2 = T at *
  obtain ⟨-, n0, n1⟩ := hl'
  obtain ⟨⟨nT, hT6, t0, m0, rt, rh⟩, ⟨nP, hP6, t1, m1, rp, nK, hK8, t2, m2, rk⟩, nL, hL40, t3, m3⟩ := rb
  obtain ⟨l3, l7, l9, l10, l1, l2, l14, lk, lth, lp, ld, lr⟩ := la
  obtain ⟨⟨c0, c1, c2, c3⟩, c4, c5, c6, c7, c8, c9⟩ := lc_cells (T := T)
  -- the class's cells
  have xc : ∀ b, 2 < b → b < 18 → X' b = lcM T 3 11 b := fun b h1 h2 => by
    rw [hX b (by omega), e46, q_upO (by omega), q_upO (by omega), q_upO (by omega), stM_out (by omega) (by omega)]
  have xo : ∀ b, 19 < b → X' b = X b := fun b hb => by
    rw [hX b (by omega), e46, q_upO (by omega), q_upO (by omega), q_upO (by omega), stM_out (by omega) (by omega), lcM_out (by omega), eo b (by omega)]
  have x0 : ∀ j, ¬ j = 11 → ¬ j = 7 → ¬ j = 9 → X' 0 j = X 0 j := fun j j1 j2 j3 => by
    rw [hX 0 (by decide), e46, q_upN (by omega), q_upN (by omega), q_upN (by omega), stM_out (by decide) (by decide), lcM_out (by decide), eo 0 (by decide)]
  have x11 : X' 0 11 = nI 0 := by rw [hX 0 (by decide), e46, q_upN (by decide), q_upN (by decide), q_upS]
  have x7 : X' 0 7 = nI 0 := by rw [hX 0 (by decide), e46, q_upN (by decide), q_upS]
  have x9 : X' 0 9 = nI 0 := by rw [hX 0 (by decide), e46, q_upS]
  have x18 : X' 18 2 = nI 0 := by
    rw [hX 18 (by decide), e46, q_upO (by decide), q_upO (by decide), q_upO (by decide)]
    unfold stM
    rw [q_upS]
  have x19 : ∀ j, X' 19 j = stM (lcM T 3 11) 18 3 19 j := fun j => by
    rw [hX 19 (by decide), e46, q_upO (by decide), q_upO (by decide), q_upO (by decide)]
  have z3 : X' 3 0 = nI nT := by rw [xc 3 (by decide) (by decide), c0, t0]
  have z31 : X' 3 1 = nI nP := by rw [xc 3 (by decide) (by decide), c1, t1]
  have z32 : X' 3 2 = nI nK := by rw [xc 3 (by decide) (by decide), c2, t2]
  have z33 : X' 3 3 = nI nL := by rw [xc 3 (by decide) (by decide), c3, t3]
  have enX : nX X' = nT := by unfold nX; rw [z3, q_cl (by omega)]
  obtain ⟨g0, g1, g2, g3, g4, g5, g6, g7, g8, g9⟩ := gT
  have gg : gL X' 3 := by
    refine ⟨⟨nT, hT6, z3⟩, ⟨nP, hP6, z31⟩, ⟨nK, hK8, z32⟩, ⟨nL, hL40, z33⟩, fun t ht => ?_, fun t ht => ?_, fun t ht => ?_, fun t ht => ?_, fun t ht => ?_, fun t ht => ?_⟩
    · rw [xc _ (by decide) (by decide), show (3 + 1 : Nat) = 4 from rfl, c4 t ht]; exact g4 t ht
    · rw [xc _ (by decide) (by decide), show (3 + 2 : Nat) = 5 from rfl, c5 t ht]; exact g5 t ht
    · rw [xc _ (by decide) (by decide), show (3 + 3 : Nat) = 6 from rfl, c6 t ht]; exact g6 t ht
    · rw [xc _ (by decide) (by decide), show (3 + 4 : Nat) = 7 from rfl, c7 t ht]; exact g7 t ht
    · rw [xc _ (by decide) (by decide), show (3 + 5 : Nat) = 8 from rfl, c8 t ht]; exact g8 t ht
    · rw [xc _ (by decide) (by decide), show (3 + 6 : Nat) = 9 from rfl, c9 t ht]; exact g9 t ht
  have gm : gM N' := by
    refine ⟨⟨nT, hT6, by rw [l3, m0]⟩, ⟨nP, hP6, by rw [l7, m1]⟩, ⟨nL, hL40, by rw [l9, m3]⟩, ⟨nK, hK8, by rw [l10, m2]⟩, ?_, ?_, ?_, ?_⟩
    · rw [l3, m0, q_cl (by omega)]
      intro t ht
      rw [lk t (by omega), ← (rt t ht).1]
      exact g4 t (by omega)
    · rw [l3, m0, q_cl (by omega)]
      intro i hi
      have := (rh (i / 4) (i % 4) (by omega) (by omega)).1
      rw [show 4 * (i / 4) + i % 4 = i by omega] at this
      rw [lth i (by omega), ← this]
      exact g6 _ (by omega)
    · rw [l7, m1, q_cl (by omega)]
      intro p hp
      rw [lp p (by omega), ← rp p hp]
      exact g8 p (by omega)
    · rw [l10, m2, q_cl (by omega), l7, m1, q_cl (by omega)]
      intro i hi
      obtain ⟨a, q, w, hq, hw, e⟩ := rk i hi
      exact ⟨q, w, hq, hw, by rw [ld i (by omega), ← a]; exact e⟩
  have lo : loR X' N' := by
    refine ⟨gg, gm, by rw [z3, l3, m0], by rw [z31, l7, m1], by rw [z32, l10, m2], by rw [z33, l9, m3], ?_, ?_, ?_, ?_, ?_, ?_⟩
    · rw [enX]
      rw [t0] at n0
      by_cases c : nT = 0
      · exact absurd (by rw [c]) n0
      · omega
    · rw [z31, q_cl (by omega)]
      rw [t1] at n1
      by_cases c : nP = 0
      · exact absurd (by rw [c]) n1
      · omega
    · rw [enX]
      intro t ht
      rw [xc 4 (by decide) (by decide), c4 t (by omega), lk t (by omega)]
      exact (rt t ht).1
    · rw [enX]
      intro t hh ht hh4
      have r := rh t hh ht hh4
      have e6 : ∀ h, h < 4 → X' 6 (t * 4 + h) = T 14 (t * 4 + h) := fun h h4 => by rw [xc 6 (by decide) (by decide), c6 _ (by omega)]
      refine ⟨by rw [e6 hh hh4, lth _ (by omega)]; exact r.1, ?_⟩
      rw [xc 7 (by decide) (by decide), c7 _ (by omega), r.2]
      congr 1
      exact faF_cong (h := hh) (fun h hle => (e6 h (by omega)).symm) hh
    · rw [z31, q_cl (by omega)]
      intro p hp
      rw [xc 8 (by decide) (by decide), c8 p (by omega), lp p (by omega)]
      exact rp p hp
    · rw [z32, q_cl (by omega)]
      intro i hi
      rw [xc 9 (by decide) (by decide), c9 i (by omega), ld i (by omega)]
      exact (rk i hi).1
  obtain ⟨e, he8, he⟩ := he
  refine ⟨lo, ⟨⟨fun t ht => ?_, fun t h1 h2 => ?_⟩, 0, by decide, x18, ?_, fun i hi => absurd hi (by omega)⟩, ⟨e, 0, he8, by omega, by rw [x0 6 (by decide) (by decide) (by decide)]; exact he, x7, l1, fun i hi => absurd hi (by omega)⟩, fun i hi => by rw [xo _ (by omega)]; exact ri i hi, ⟨0, by omega, x9, l2, fun i hi => absurd hi (by omega)⟩, ⟨0, by omega, x11, l14, fun i hi => absurd hi (by omega)⟩, fun i hi => by rw [xo _ (by decide)]; exact st i hi, ?_⟩
  · rw [enX] at ht
    obtain ⟨s3, s0, s1, s2, s4⟩ := stM_fig (M := lcM T 3 11) (t := t) (by omega)
    have q0 : N' 1 (0 + (0 + t)) = N 11 t := by rw [Nat.zero_add, Nat.zero_add, lr t (by omega), if_pos (by omega), m0, q_cl (by omega), if_pos ht]
    have qz : ∀ g, g = 6 ∨ g = 12 ∨ g = 18 → N' 1 (0 + (g + t)) = nI 0 := fun g hg => by rw [lr _ (by omega), if_neg (by omega), if_neg (by omega)]
    have q4 : N' 1 (0 + (24 + t)) = Int32.ofInt (-4) := by rw [lr _ (by omega), if_neg (by omega), if_pos (by omega)]
    unfold fgR
    dsimp only [Nat.reduceAdd]
    rw [x19, x19, x19, x19, x19, s3, s0, s1, s2, s4, q0, qz 6 (by omega), qz 12 (by omega), qz 18 (by omega), q4, c5 t (by omega), (rt t ht).2]
    refine ⟨⟨rfl, ?_⟩, ⟨rfl, 0, by decide, rfl⟩, ⟨rfl, 40, by decide, by decide⟩, ⟨rfl, 0, by decide, rfl⟩, by decide⟩
    rw [← (rt t ht).2]
    exact g5 t (by omega)
  · show X' 19 (t * 5 + 0) = nI 0
    rw [x19]
    exact (stM_fig h2).2.1
  · show N' 1 (0 + 30) = nI 0
    rw [lr _ (by decide), if_neg (by decide), if_neg (by decide)]
  · have eb : ∀ b, 11 ≤ b → b < 18 → X' b = T b := fun b b1 b2 => by rw [xc b (by omega) b2, lcM_out (by omega)]
    exact gL_ofe ⟨g0, g1, g2, g3, g4, g5, g6, g7, g8, g9⟩ (fun b b1 b2 => eb b b1 (by omega))
