/-! turn, keep, back, undo -/
def unP (n : Nat) (X N : mv_Mem) : Prop := ∃ e m, e < 8 ∧ m ≤ 8 ∧ X 0 6 &&& nI 7 = nI e ∧ X 0 7 = nI m ∧ N 0 1 = nI m ∧ ∀ i, i < m → cR n X N (25 + 3 * ((e + 8 - m + i) % 8)) (799 + 799 * i)
def keP (n : Nat) (X N : mv_Mem) : Prop := ∃ m, m ≤ 2 ∧ X 0 9 = nI m ∧ N 0 2 = nI m ∧ ∀ i, i < m → cR n X N (50 + 3 * i) (7191 + 799 * i)
theorem RR_four {k : Nat} {X N X' N' : mv_Mem} (h : RR k X N) (hX : ∀ b, b = 1 ∨ (3 ≤ b ∧ b < 10) ∨ (11 ≤ b ∧ b < 18) ∨ b = 56 ∨ b = 60 ∨ b = 61 → X' b = X b) (h0 : X' 0 11 = X 0 11) (hN : ∀ b, b = 2 ∨ b = 3 ∨ b = 5 ∨ b = 6 ∨ b = 7 ∨ b = 8 → N' b = N b) (f0 : ∀ j, j = 3 ∨ j = 7 ∨ j = 9 ∨ j = 10 ∨ j = 13 ∨ j = 14 → N' 0 j = N 0 j)
    (cl : cR (nX X) X' N' 18 0) (un : unP (nX X) X' N') (ri : ∀ i, i < 8 → ∃ r, r < 25 ∧ X' (25 + 3 * i) 2 = nI r) (ke : keP (nX X) X' N') : RR k X' N' := by
  have enX : nX X' = nX X := by unfold nX; rw [hX 3 (by omega)]
  have e1 : X' 1 = X 1 := hX 1 (by omega)
  have e61 : X' 61 = X 61 := hX 61 (by omega)
  refine ⟨lo_of h.lo (fun b h1 h2 => hX b (by omega)) (fun b hb => hN b (by omega)) (fun j hj => f0 j (by omega)), ?_, ?_, ri, ?_, ?_, ?_, tX_ofe h.tx e1 e61, gL_ofe h.gl (fun b h1 h2 => hX b (by omega)), tY_ofe h.ty (f0 13 (by omega)) (hN 7 (by omega)), ?_, ?_⟩
  · unfold RR_cl
    rw [enX]
    exact cl
  · unfold RR_un
    rw [enX]
    exact un
  · unfold RR_ke
    rw [enX]
    exact ke
  · obtain ⟨n, hn, a, b, d⟩ := h.se
    refine ⟨n, hn, h0.trans a, (f0 14 (by omega)).trans b, fun i hi => ?_⟩
    rw [hX 56 (by omega), hN 8 (by omega)]
    exact d i hi
  · intro i hi
    rw [hX _ (by omega)]
    exact h.st i hi
  · unfold RR_le
    rw [lx_ofe e1 e61, ly_ofe (f0 13 (by omega)) (hN 7 (by omega))]
    exact h.le
  · obtain ⟨n, hn, a, b⟩ := h.ln
    exact ⟨n, hn, by rw [e1]; exact a, by rw [f0 13 (by omega)]; exact b⟩
theorem tw_keep : twn 110 196 [.ref 0] := by
  apply twn_of
  intro k sx sn X N hk ox om hR
  have n6 := hR.n6.1
  obtain ⟨n, hn, x9, y2, ke⟩ := hR.ke
  have px : oX sx ∧ (∃ n, n < 3 ∧ X 0 9 = nI n) ∧ (∃ r, r < 25 ∧ X 18 2 = nI r) := ⟨ox, ⟨n, by omega, x9⟩, hR.r25⟩
  have pn : oM sn ∧ (∃ n, n < 3 ∧ N 0 2 = nI n) := ⟨om, ⟨n, by omega, y2⟩⟩
  by_cases c : n = 2
  · have f1 : X 0 9 = nI 2 := by rw [x9, c]
    have f2 : N 0 2 = nI 2 := by rw [y2, c]
    refine ⟨Int32.ofInt (-3), X, N, fun Q hQ => ?_, fun Q hQ => ?_, hR.up⟩
    · rw [eS110]; exact ⟨rfl, px, Qe hQ (if_pos f1) (if_pos f1)⟩
    · rw [eS196]; exact ⟨rfl, pn, Qe hQ (if_pos f2) (if_pos f2)⟩
  have f1 : ¬ X 0 9 = nI 2 := fun z => c (nI_inj (x9.symm.trans z) (by omega) (by decide))
  have f2 : ¬ N 0 2 = nI 2 := fun z => c (nI_inj (y2.symm.trans z) (by omega) (by decide))
  have a1 : (X 0 9).toNatClampNeg = n := by rw [x9, q_cl (by omega)]
  have a2 : (N 0 2).toNatClampNeg = n := by rw [y2, q_cl (by omega)]
  refine ⟨nI (n + 1), mv_up (cpM X (50 + 3 * n) 18) 0 9 (nI (n + 1)), mv_up (cpY N 0 (7191 + 799 * n) 799) 0 2 (nI (n + 1)), fun Q hQ => ?_, fun Q hQ => ?_, ?_⟩
  · rw [eS110]
    refine ⟨rfl, px, ?_⟩
    rw [a1]
    exact Qe hQ (if_neg f1) (if_neg f1)
  · rw [eS196]
    refine ⟨rfl, pn, ?_⟩
    rw [a2]
    exact Qe hQ (if_neg f2) (if_neg f2)
  · have xo : ∀ b, ¬ b = 0 → ¬ b = 50 + 3 * n → ¬ b = 50 + 3 * n + 1 → ¬ b = 50 + 3 * n + 2 → mv_up (cpM X (50 + 3 * n) 18) 0 9 (nI (n + 1)) b = X b := fun b h0 h1 h2 h3 => by rw [q_upO h0, cpM_out h1 h2 h3]
    have x0 : ∀ j, ¬ j = 9 → mv_up (cpM X (50 + 3 * n) 18) 0 9 (nI (n + 1)) 0 j = X 0 j := fun j hj => by rw [q_upN (by omega), cpM_out (by omega) (by omega) (by omega)]
    have y1 : ∀ j, j < 7191 + 799 * n → mv_up (cpY N 0 (7191 + 799 * n) 799) 0 2 (nI (n + 1)) 1 j = N 1 j := fun j hj => by rw [q_upO (by decide), cpY_at (by omega)]
    refine (RR_four hR (fun b hb => xo b (by omega) (by omega) (by omega) (by omega)) (x0 11 (by decide)) (fun b hb => by rw [q_upO (by omega), cpY_out (by omega)]) (fun j hj => by rw [q_upN (by omega), cpY_out (by decide)]) ?_ ?_ ?_ ?_).up
    · refine cR_of hR.cl n6 ?_ (fun j _ => ?_) (fun j _ => ?_) (fun j hj => y1 _ (by omega))
      · rw [xo 18 (by omega) (by omega) (by omega) (by omega)]
      · rw [xo (18 + 1) (by omega) (by omega) (by omega) (by omega)]
      · rw [xo (18 + 2) (by omega) (by omega) (by omega) (by omega)]
    · obtain ⟨e, m, he, hm, u6, u7, v1, un⟩ := hR.un
      refine ⟨e, m, he, hm, by rw [x0 6 (by decide)]; exact u6, (x0 7 (by decide)).trans u7, by rw [q_upN (by decide), cpY_out (by decide)]; exact v1, fun i hi => ?_⟩
      have hmm : (e + 8 - m + i) % 8 < 8 := Nat.mod_lt _ (by decide)
      refine cR_of (un i hi) n6 ?_ (fun j _ => ?_) (fun j _ => ?_) (fun j hj => y1 _ (by omega))
      · rw [xo _ (by omega) (by omega) (by omega) (by omega)]
      · rw [xo _ (by omega) (by omega) (by omega) (by omega)]
      · rw [xo _ (by omega) (by omega) (by omega) (by omega)]
    · intro i hi
      rw [xo _ (by omega) (by omega) (by omega) (by omega)]
      exact hR.ri i hi
    · refine ⟨n + 1, by omega, q_upS, q_upS, fun i hi => ?_⟩
      by_cases ci : i = n
      · subst ci
        have q : cR (nX X) (cpM X (50 + 3 * i) 18) (mv_up (cpY N 0 (7191 + 799 * i) 799) 0 2 (nI (i + 1))) (50 + 3 * i) (7191 + 799 * i) := cp_cR hR.cl n6 (fun j hj => by rw [q_upO (by decide), cpY_in hj])
        refine cR_of q n6 ?_ (fun j _ => ?_) (fun j _ => ?_) (fun j _ => rfl)
        · rw [q_upO (by omega)]
        · rw [q_upO (by omega)]
        · rw [q_upO (by omega)]
      · refine cR_of (ke i (by omega)) n6 ?_ (fun j _ => ?_) (fun j _ => ?_) (fun j hj => y1 _ (by omega))
        · rw [xo _ (by omega) (by omega) (by omega) (by omega)]
        · rw [xo _ (by omega) (by omega) (by omega) (by omega)]
        · rw [xo _ (by omega) (by omega) (by omega) (by omega)]
theorem tw_back : twn 76 173 [.ref 0] := by
  apply twn_of
  intro k sx sn X N hk ox om hR
  have n6 := hR.n6.1
  obtain ⟨n, hn, x9, y2, ke⟩ := hR.ke
  have a1 : (X 0 9).toNatClampNeg = n := by rw [x9, q_cl (by omega)]
  have a2 : (N 0 2).toNatClampNeg = n := by rw [y2, q_cl (by omega)]
  have px : oX sx ∧ (∃ n, n < 3 ∧ X 0 9 = nI n) ∧ ((X 0 9 = nI 0 ∨ ∃ r, r < 25 ∧ X (50 + 3 * ((X 0 9).toNatClampNeg - 1)) 2 = nI r)) := by
    refine ⟨ox, ⟨n, by omega, x9⟩, ?_⟩
    by_cases c : n = 0
    · exact Or.inl (by rw [x9, c])
    · rw [a1]
      obtain ⟨-, r, r1, r2, -⟩ := ke (n - 1) (by omega)
      exact Or.inr ⟨r, r1, r2⟩
  have pn : oM sn ∧ (∃ n, n < 3 ∧ N 0 2 = nI n) := ⟨om, ⟨n, by omega, y2⟩⟩
  by_cases c : n = 0
  · have f1 : X 0 9 = nI 0 := by rw [x9, c]
    have f2 : N 0 2 = nI 0 := by rw [y2, c]
    refine ⟨Int32.ofInt (-2), X, N, fun Q hQ => ?_, fun Q hQ => ?_, hR.up⟩
    · rw [eS76]; exact ⟨rfl, px, Qe hQ (if_pos f1) (if_pos f1)⟩
    · rw [eS173]; exact ⟨rfl, pn, Qe hQ (if_pos f2) (if_pos f2)⟩
  have f1 : ¬ X 0 9 = nI 0 := fun z => c (nI_inj (x9.symm.trans z) (by omega) (by decide))
  have f2 : ¬ N 0 2 = nI 0 := fun z => c (nI_inj (y2.symm.trans z) (by omega) (by decide))
  refine ⟨nI (n - 1), mv_up (cpM (mv_up X 0 9 (nI (n - 1))) 18 (50 + 3 * (n - 1))) 0 7 (nI 0), mv_up (cpY (mv_up N 0 2 (nI (n - 1))) (7191 + 799 * (n - 1)) 0 799) 0 1 (nI 0), fun Q hQ => ?_, fun Q hQ => ?_, ?_⟩
  · rw [eS76]
    refine ⟨rfl, px, ?_⟩
    rw [a1]
    exact Qe hQ (if_neg f1) (if_neg f1)
  · rw [eS173]
    refine ⟨rfl, pn, ?_⟩
    rw [a2]
    exact Qe hQ (if_neg f2) (if_neg f2)
  · have xo : ∀ b, ¬ b = 0 → ¬ b = 18 → ¬ b = 18 + 1 → ¬ b = 18 + 2 → mv_up (cpM (mv_up X 0 9 (nI (n - 1))) 18 (50 + 3 * (n - 1))) 0 7 (nI 0) b = X b := fun b h0 h1 h2 h3 => by rw [q_upO h0, cpM_out h1 h2 h3, q_upO h0]
    have x0 : ∀ j, ¬ j = 7 → ¬ j = 9 → mv_up (cpM (mv_up X 0 9 (nI (n - 1))) 18 (50 + 3 * (n - 1))) 0 7 (nI 0) 0 j = X 0 j := fun j hj h9 => by rw [q_upN (by omega), cpM_out (by omega) (by omega) (by omega), q_upN (by omega)]
    have y1 : ∀ j, 799 ≤ j → mv_up (cpY (mv_up N 0 2 (nI (n - 1))) (7191 + 799 * (n - 1)) 0 799) 0 1 (nI 0) 1 j = N 1 j := fun j hj => by rw [q_upO (by decide), cpY_at (by omega), q_upO (by decide)]
    have y0 : ∀ j, ¬ j = 1 → ¬ j = 2 → mv_up (cpY (mv_up N 0 2 (nI (n - 1))) (7191 + 799 * (n - 1)) 0 799) 0 1 (nI 0) 0 j = N 0 j := fun j h1 h2 => by rw [q_upN (by omega), cpY_out (by decide), q_upN (by omega)]
    refine (RR_four hR (fun b hb => xo b (by omega) (by omega) (by omega) (by omega)) (x0 11 (by decide) (by decide)) (fun b hb => by rw [q_upO (by omega), cpY_out (by omega), q_upO (by omega)]) (fun j hj => y0 j (by omega) (by omega)) ?_ ?_ ?_ ?_).up
    · have q : cR (nX X) (mv_up X 0 9 (nI (n - 1))) N (50 + 3 * (n - 1)) (7191 + 799 * (n - 1)) := by
        refine cR_of (ke (n - 1) (by omega)) n6 ?_ (fun j _ => ?_) (fun j _ => ?_) (fun j _ => rfl)
        · rw [q_upO (by omega)]
        · rw [q_upO (by omega)]
        · rw [q_upO (by omega)]
      have q2 : cR (nX X) (cpM (mv_up X 0 9 (nI (n - 1))) 18 (50 + 3 * (n - 1))) (mv_up (cpY (mv_up N 0 2 (nI (n - 1))) (7191 + 799 * (n - 1)) 0 799) 0 1 (nI 0)) 18 0 := cp_cR q n6 (fun j hj => by rw [q_upO (by decide), cpY_in hj, q_upO (by decide)])
      refine cR_of q2 n6 ?_ (fun j _ => ?_) (fun j _ => ?_) (fun j _ => rfl)
      · rw [q_upO (by omega)]
      · rw [q_upO (by omega)]
      · rw [q_upO (by omega)]
    · obtain ⟨e, m, he, hm, u6, u7, v1, un⟩ := hR.un
      exact ⟨e, 0, he, by omega, by rw [x0 6 (by decide) (by decide)]; exact u6, q_upS, q_upS, fun i hi => absurd hi (by omega)⟩
    · intro i hi
      rw [xo _ (by omega) (by omega) (by omega) (by omega)]
      exact hR.ri i hi
    · refine ⟨n - 1, by omega, by rw [q_upN (by decide), cpM_out (by decide) (by decide) (by decide), q_upS], by rw [q_upN (by decide), cpY_out (by decide), q_upS], fun i hi => ?_⟩
      refine cR_of (ke i (by omega)) n6 ?_ (fun j _ => ?_) (fun j _ => ?_) (fun j hj => y1 _ (by omega))
      · rw [xo _ (by omega) (by omega) (by omega) (by omega)]
      · rw [xo _ (by omega) (by omega) (by omega) (by omega)]
      · rw [xo _ (by omega) (by omega) (by omega) (by omega)]
theorem tw_undo : twn 131 210 [.ref 0] := by
  apply twn_of
  intro k sx sn X N hk ox om hR
  have n6 := hR.n6.1
  obtain ⟨e, n, he, hn, x6, x7, v1, un⟩ := hR.un
  have a6 : (X 0 6 &&& nI 7).toNatClampNeg = e := by rw [x6, q_cl (by omega)]
  have a7 : (X 0 7).toNatClampNeg = n := by rw [x7, q_cl (by omega)]
  have a1 : (N 0 1).toNatClampNeg = n := by rw [v1, q_cl (by omega)]
  have px : oX sx ∧ (∃ e, e < 8 ∧ X 0 6 &&& nI 7 = nI e) ∧ (∃ n, n < 9 ∧ X 0 7 = nI n) ∧ (∀ i, i < 8 → ∃ r, r < 25 ∧ X (25 + 3 * i) 2 = nI r) := ⟨ox, hR.e8, hR.n9, hR.ri⟩
  have pn : oM sn ∧ (∃ n, n < 9 ∧ N 0 1 = nI n) := ⟨om, hR.u9⟩
  by_cases c : n = 0
  · have f1 : X 0 7 = nI 0 := by rw [x7, c]
    have f2 : N 0 1 = nI 0 := by rw [v1, c]
    refine ⟨Int32.ofInt (-2), X, N, fun Q hQ => ?_, fun Q hQ => ?_, hR.up⟩
    · rw [eS131]; exact ⟨rfl, px, Qe hQ (if_pos f1) (if_pos f1)⟩
    · rw [eS210]; exact ⟨rfl, pn, Qe hQ (if_pos f2) (if_pos f2)⟩
  have f1 : ¬ X 0 7 = nI 0 := fun z => c (nI_inj (x7.symm.trans z) (by omega) (by decide))
  have f2 : ¬ N 0 1 = nI 0 := fun z => c (nI_inj (v1.symm.trans z) (by omega) (by decide))
  have u8 := udE_lt he
  have ue : (e + 8 - n + (n - 1)) % 8 = udE e := by
    unfold udE
    split <;> omega
  refine ⟨nI (n - 1), udM X, cpY (mv_up N 0 1 (nI (n - 1))) (799 + 799 * (n - 1)) 0 799, fun Q hQ => ?_, fun Q hQ => ?_, ?_⟩
  · rw [eS131]
    refine ⟨rfl, px, ?_⟩
    rw [a7]
    exact Qe hQ (if_neg f1) (if_neg f1)
  · rw [eS210]
    refine ⟨rfl, pn, ?_⟩
    rw [a1]
    exact Qe hQ (if_neg f2) (if_neg f2)
  · have eU : udM X = cpM (mv_up (mv_up X 0 6 (X 0 6 - nI 1)) 0 7 (nI (n - 1))) 18 (25 + 3 * udE e) := by
      unfold udM
      rw [a6, a7]
    rw [eU]
    have xo : ∀ b, ¬ b = 0 → ¬ b = 18 → ¬ b = 18 + 1 → ¬ b = 18 + 2 → cpM (mv_up (mv_up X 0 6 (X 0 6 - nI 1)) 0 7 (nI (n - 1))) 18 (25 + 3 * udE e) b = X b := fun b h0 h1 h2 h3 => by rw [cpM_out h1 h2 h3, q_upO h0, q_upO h0]
    have x0 : cpM (mv_up (mv_up X 0 6 (X 0 6 - nI 1)) 0 7 (nI (n - 1))) 18 (25 + 3 * udE e) 0 = (mv_up (mv_up X 0 6 (X 0 6 - nI 1)) 0 7 (nI (n - 1))) 0 := cpM_out (by decide) (by decide) (by decide)
    have y1 : ∀ j, 799 ≤ j → cpY (mv_up N 0 1 (nI (n - 1))) (799 + 799 * (n - 1)) 0 799 1 j = N 1 j := fun j hj => by rw [cpY_at (by omega), q_upO (by decide)]
    refine (RR_four hR (fun b hb => xo b (by omega) (by omega) (by omega) (by omega)) (by rw [x0, q_upN (by decide), q_upN (by decide)]) (fun b hb => by rw [cpY_out (by omega), q_upO (by omega)]) (fun j hj => by rw [cpY_out (by decide), q_upN (by omega)]) ?_ ?_ ?_ ?_).up
    · have q := un (n - 1) (by omega)
      rw [ue] at q
      have q1 : cR (nX X) (mv_up (mv_up X 0 6 (X 0 6 - nI 1)) 0 7 (nI (n - 1))) N (25 + 3 * udE e) (799 + 799 * (n - 1)) := by
        refine cR_of q n6 ?_ (fun j _ => ?_) (fun j _ => ?_) (fun j _ => rfl)
        · rw [q_upO (by omega), q_upO (by omega)]
        · rw [q_upO (by omega), q_upO (by omega)]
        · rw [q_upO (by omega), q_upO (by omega)]
      exact cp_cR q1 n6 (fun j hj => by rw [cpY_in hj, q_upO (by decide)])
    · refine ⟨udE e, n - 1, u8, by omega, by rw [x0, q_upN (by decide), q_upS]; exact rg_dn x6 he, by rw [x0, q_upS], by rw [cpY_out (by decide), q_upS], fun i hi => ?_⟩
      have ei : (udE e + 8 - (n - 1) + i) % 8 = (e + 8 - n + i) % 8 := by
        unfold udE
        split <;> omega
      rw [ei]
      have hmm : (e + 8 - n + i) % 8 < 8 := Nat.mod_lt _ (by decide)
      refine cR_of (un i (by omega)) n6 ?_ (fun j _ => ?_) (fun j _ => ?_) (fun j hj => y1 _ (by omega))
      · rw [xo _ (by omega) (by omega) (by omega) (by omega)]
      · rw [xo _ (by omega) (by omega) (by omega) (by omega)]
      · rw [xo _ (by omega) (by omega) (by omega) (by omega)]
    · intro i hi
      rw [xo _ (by omega) (by omega) (by omega) (by omega)]
      exact hR.ri i hi
    · obtain ⟨m, hm, k9, k2, ke⟩ := hR.ke
      refine ⟨m, hm, by rw [x0, q_upN (by decide), q_upN (by decide)]; exact k9, by rw [cpY_out (by decide), q_upN (by decide)]; exact k2, fun i hi => ?_⟩
      refine cR_of (ke i hi) n6 ?_ (fun j _ => ?_) (fun j _ => ?_) (fun j hj => y1 _ (by omega))
      · rw [xo _ (by omega) (by omega) (by omega) (by omega)]
      · rw [xo _ (by omega) (by omega) (by omega) (by omega)]
      · rw [xo _ (by omega) (by omega) (by omega) (by omega)]
