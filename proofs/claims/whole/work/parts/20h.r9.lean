/-! weave, again, unweave, turn, keep, back, undo -/
section
variable {k : Nat} {X N : mv_Mem}
theorem RR.p31 (h : RR k X N) : ∃ n, n ≤ 6 ∧ X 3 1 = nI n ∧ N 0 7 = nI n ∧ (X 3 1).toNatClampNeg = n := by
  obtain ⟨n, hn, e⟩ := h.lo.1.2.1
  exact ⟨n, hn, e, h.lo.2.2.2.1.symm.trans e, by rw [e, q_cl (by omega)]⟩
theorem RR.rm_nX (h : RR k X N) : nX (rmM X) = nX X := by unfold nX; rw [rmM_out (by decide) (by decide)]
theorem RR.rm_row (h : RR k X N) {r : Nat} (h2 : X 18 2 = nI r) : rmM X 18 2 = nI r := by rw [rmM_out (by decide) (by decide)]; exact h2
end
theorem way01 {y : Int32} (h : ¬ (¬ y = nI 0 ∧ ¬ y = nI 1)) : ∃ w, w < 2 ∧ y = nI w := by
  by_cases a : y = nI 0
  · exact ⟨0, by decide, a⟩
  · by_cases b : y = nI 1
    · exact ⟨1, by decide, b⟩
    · exact absurd ⟨a, b⟩ h
theorem tw_weave (x y : Int32) : twn 137 213 [.ref 0, .int x, .int y] := by
  apply twn_of
  intro k sx sn X N hk ox om hR
  obtain ⟨n, hn, x1, y1, en⟩ := hR.p31
  obtain ⟨r, r1, r2, r3⟩ := hR.ro
  have px : oX sx ∧ gL X 3 ∧ (∃ e, e < 8 ∧ X 0 6 &&& nI 7 = nI e) ∧ (∃ n, n < 9 ∧ X 0 7 = nI n) ∧ (∃ r, r < 25 ∧ X 18 2 = nI r) := ⟨ox, hR.lo.1, hR.e8, hR.n9, hR.r25⟩
  have pn : oM sn ∧ gM N ∧ cY N 0 ∧ (∃ n, n < 9 ∧ N 0 1 = nI n) ∧ (∃ r, r < 25 ∧ N 1 30 = nI r) := ⟨om, hR.gm, hR.cy, hR.u9, hR.q25⟩
  by_cases c1 : x < nI 0
  · refine ⟨Int32.ofInt (-1), X, N, fun Q hQ => ?_, fun Q hQ => ?_, hR.up⟩
    · rw [eS137]; exact ⟨x, y, rfl, px, Qe hQ (if_pos c1) (if_pos c1)⟩
    · rw [eS213]; exact ⟨x, y, rfl, pn, Qe hQ (if_pos c1) (if_pos c1)⟩
  by_cases c2 : nI n ≤ x
  · have d1 : X 3 1 ≤ x := by rw [x1]; exact c2
    have d2 : N 0 7 ≤ x := by rw [y1]; exact c2
    refine ⟨Int32.ofInt (-1), X, N, fun Q hQ => ?_, fun Q hQ => ?_, hR.up⟩
    · rw [eS137]; exact ⟨x, y, rfl, px, Qe hQ ((if_neg c1).trans (if_pos d1)) ((if_neg c1).trans (if_pos d1))⟩
    · rw [eS213]; exact ⟨x, y, rfl, pn, Qe hQ ((if_neg c1).trans (if_pos d2)) ((if_neg c1).trans (if_pos d2))⟩
  have d1 : ¬ X 3 1 ≤ x := by rw [x1]; exact c2
  have d2 : ¬ N 0 7 ≤ x := by rw [y1]; exact c2
  by_cases c3 : ¬ y = nI 0 ∧ ¬ y = nI 1
  · refine ⟨Int32.ofInt (-1), X, N, fun Q hQ => ?_, fun Q hQ => ?_, hR.up⟩
    · rw [eS137]; exact ⟨x, y, rfl, px, Qe hQ ((if_neg c1).trans ((if_neg d1).trans (if_pos c3))) ((if_neg c1).trans ((if_neg d1).trans (if_pos c3)))⟩
    · rw [eS213]; exact ⟨x, y, rfl, pn, Qe hQ ((if_neg c1).trans ((if_neg d2).trans (if_pos c3))) ((if_neg c1).trans ((if_neg d2).trans (if_pos c3)))⟩
  by_cases c4 : r = 24
  · have f1 : X 18 2 = nI 24 := by rw [r2, c4]
    have f2 : N 1 30 = nI 24 := by rw [r3, c4]
    refine ⟨Int32.ofInt (-3), X, N, fun Q hQ => ?_, fun Q hQ => ?_, hR.up⟩
    · rw [eS137]; exact ⟨x, y, rfl, px, Qe hQ ((if_neg c1).trans ((if_neg d1).trans ((if_neg c3).trans (if_pos f1)))) ((if_neg c1).trans ((if_neg d1).trans ((if_neg c3).trans (if_pos f1))))⟩
    · rw [eS213]; exact ⟨x, y, rfl, pn, Qe hQ ((if_neg c1).trans ((if_neg d2).trans ((if_neg c3).trans (if_pos f2)))) ((if_neg c1).trans ((if_neg d2).trans ((if_neg c3).trans (if_pos f2))))⟩
  have f1 : ¬ X 18 2 = nI 24 := fun z => c4 (nI_inj (r2.symm.trans z) (by omega) (by decide))
  have f2 : ¬ N 1 30 = nI 24 := fun z => c4 (nI_inj (r3.symm.trans z) (by omega) (by decide))
  obtain ⟨p, hp, rfl, -, ep, -⟩ := pk_mu c1 c2 (by omega)
  obtain ⟨w, hw, rfl⟩ := way01 c3
  have ew : (nI w).toNatClampNeg = w := q_cl (by omega)
  have h := RR_rm hR
  have hp1 : p < (rmM X 3 1).toNatClampNeg := by rw [rmM_out (by decide) (by decide), en]; exact hp
  have hrow := hR.rm_row r2
  obtain ⟨-, -, -, -, co⟩ := wv_cR h (by decide) h.cl hp1 hw hrow (by omega)
  refine ⟨clX (wvM (rmM X) 18 3 p w) 3 (tpX (wvM (rmM X) 18 3 p w) 18), wvM (rmM X) 18 3 p w, wvY (kpM N) 0 p w, fun Q hQ => ?_, fun Q hQ => ?_, (RR_wv h hp1 hw hrow (by omega)).up⟩
  · rw [eS137]
    refine ⟨nI p, nI w, rfl, px, ?_⟩
    rw [ep, ew]
    exact Qe hQ ((if_neg c1).trans ((if_neg d1).trans ((if_neg c3).trans (if_neg f1)))) ((if_neg c1).trans ((if_neg d1).trans ((if_neg c3).trans (if_neg f1))))
  · rw [eS213]
    refine ⟨nI p, nI w, rfl, pn, ?_⟩
    rw [ep, ew, ← co]
    exact Qe hQ ((if_neg c1).trans ((if_neg d2).trans ((if_neg c3).trans (if_neg f2)))) ((if_neg c1).trans ((if_neg d2).trans ((if_neg c3).trans (if_neg f2))))
/-- the draft's picks are picks -/
theorem RR.pk {k : Nat} {X N : mv_Mem} (h : RR k X N) {i : Nat} (hi : i < (X 3 2).toNatClampNeg) : ∃ q w, q < (X 3 1).toNatClampNeg ∧ w < 2 ∧ X 9 i = nI (10 * q + w) ∧ N 6 i = nI (10 * q + w) := by
  have e := h.lo.2.2.2.2.2.2.2.2.2.2.2 i hi
  have e2 : (N 0 10).toNatClampNeg = (X 3 2).toNatClampNeg := by rw [h.lo.2.2.2.2.1]
  have e7 : (N 0 7).toNatClampNeg = (X 3 1).toNatClampNeg := by rw [h.lo.2.2.2.1]
  obtain ⟨q, w, hq, hw, en⟩ := h.gm.2.2.2.2.2.2.2 i (by rw [e2]; exact hi)
  exact ⟨q, w, by rw [← e7]; exact hq, hw, e.trans en, en⟩
theorem ag_RR : ∀ n j {k : Nat} {X N : mv_Mem} {r : Nat}, RR k X N → X 18 2 = nI r → r < 25 → j + n ≤ (X 3 2).toNatClampNeg → ∃ m, RR k (agF n j X) (agY n j N).2 ∧ (agY n j N).1 = j + m ∧ r + m < 25 ∧ agF n j X 18 2 = nI (r + m)
  | 0, j, k, X, N, r, h, h2, hr, _ => ⟨0, h, rfl, hr, h2⟩
  | n + 1, j, k, X, N, r, h, h2, hr, hj => by
    obtain ⟨r', hr', g2, g3⟩ := h.ro
    obtain rfl : r' = r := nI_inj (g2.symm.trans h2) (by omega) (by omega)
    obtain ⟨q, w, hq, hw, e1, e2⟩ := h.pk (i := j) (by omega)
    have d1 : (10 * q + w) / 10 = q := by omega
    have d2 : (10 * q + w) % 10 = w := by omega
    obtain ⟨p, hp6, -, -, ep⟩ := h.p31
    unfold agF agY
    rw [h2, g3, q_cl (by omega)]
    by_cases c : r' < 24
    · rw [if_pos c, if_pos c, e1, e2, q_cl (by omega), d1, d2]
      obtain ⟨-, -, c2, -, -⟩ := wv_cR h (by decide) h.cl hq hw h2 c
      obtain ⟨m, a, b, cc, d⟩ := ag_RR n (j + 1) (RR_wv h hq hw h2 c) c2 (by omega) (by rw [wvM_out (by decide) (by decide) (by decide)]; omega)
      exact ⟨m + 1, a, by rw [b]; omega, by omega, by rw [d]; congr 1; omega⟩
    · rw [if_neg c, if_neg c]
      exact ⟨0, h, rfl, hr, h2⟩
theorem nI_sub {a b : Nat} : nI (a + b) - nI a = nI b := by
  rw [← q_add, Int32.add_comm, Int32.add_sub_cancel]
theorem tw_again : twn 71 166 [.ref 0] := by
  apply twn_of
  intro k sx sn X N hk ox om hR
  obtain ⟨r, r1, r2, r3⟩ := hR.ro
  have px : oX sx ∧ gL X 3 ∧ (∃ e, e < 8 ∧ X 0 6 &&& nI 7 = nI e) ∧ (∃ n, n < 9 ∧ X 0 7 = nI n) ∧ (∃ r, r < 25 ∧ X 18 2 = nI r) := ⟨ox, hR.lo.1, hR.e8, hR.n9, hR.r25⟩
  have pn : oM sn ∧ gM N ∧ cY N 0 ∧ (∃ n, n < 9 ∧ N 0 1 = nI n) ∧ (∃ r, r < 25 ∧ N 1 30 = nI r) := ⟨om, hR.gm, hR.cy, hR.u9, hR.q25⟩
  have e10 := hR.lo.2.2.2.2.1
  by_cases c1 : X 3 2 = nI 0
  · have d1 : N 0 10 = nI 0 := by rw [← e10]; exact c1
    refine ⟨Int32.ofInt (-2), X, N, fun Q hQ => ?_, fun Q hQ => ?_, hR.up⟩
    · rw [eS71]; exact ⟨rfl, px, Qe hQ (if_pos c1) (if_pos c1)⟩
    · rw [eS166]; exact ⟨rfl, pn, Qe hQ (if_pos d1) (if_pos d1)⟩
  have d1 : ¬ N 0 10 = nI 0 := by rw [← e10]; exact c1
  by_cases c4 : r = 24
  · have f1 : X 18 2 = nI 24 := by rw [r2, c4]
    have f2 : N 1 30 = nI 24 := by rw [r3, c4]
    refine ⟨Int32.ofInt (-3), X, N, fun Q hQ => ?_, fun Q hQ => ?_, hR.up⟩
    · rw [eS71]; exact ⟨rfl, px, Qe hQ ((if_neg c1).trans (if_pos f1)) ((if_neg c1).trans (if_pos f1))⟩
    · rw [eS166]; exact ⟨rfl, pn, Qe hQ ((if_neg d1).trans (if_pos f2)) ((if_neg d1).trans (if_pos f2))⟩
  have f1 : ¬ X 18 2 = nI 24 := fun z => c4 (nI_inj (r2.symm.trans z) (by omega) (by decide))
  have f2 : ¬ N 1 30 = nI 24 := fun z => c4 (nI_inj (r3.symm.trans z) (by omega) (by decide))
  obtain ⟨m, a, b, cc, d⟩ := ag_RR (X 3 2).toNatClampNeg 0 (RR_rm hR) (hR.rm_row r2) r1 (by rw [rmM_out (by decide) (by decide)]; omega)
  rw [Nat.zero_add] at b
  refine ⟨nI m, agF (X 3 2).toNatClampNeg 0 (rmM X), (agY (X 3 2).toNatClampNeg 0 (kpM N)).2, fun Q hQ => ?_, fun Q hQ => ?_, a.up⟩
  · rw [eS71]
    refine ⟨rfl, px, Qe hQ ((if_neg c1).trans ((if_neg f1).trans ?_)) ((if_neg c1).trans (if_neg f1))⟩
    rw [d, r2]
    exact nI_sub
  · rw [eS166]
    refine ⟨rfl, pn, ?_⟩
    rw [← e10]
    refine Qe hQ ((if_neg c1).trans ((if_neg f2).trans ?_)) ((if_neg c1).trans (if_neg f2))
    rw [b]
theorem tw_unweave : twn 133 211 [.ref 0] := by
  apply twn_of
  intro k sx sn X N hk ox om hR
  obtain ⟨r, r1, r2, r3⟩ := hR.ro
  have px : oX sx ∧ (∃ e, e < 8 ∧ X 0 6 &&& nI 7 = nI e) ∧ (∃ n, n < 9 ∧ X 0 7 = nI n) ∧ (∃ r, r < 25 ∧ X 18 2 = nI r) := ⟨ox, hR.e8, hR.n9, hR.r25⟩
  have pn : oM sn ∧ (∃ n, n < 9 ∧ N 0 1 = nI n) ∧ (∃ r, r < 25 ∧ N 1 30 = nI r) := ⟨om, hR.u9, hR.q25⟩
  by_cases c : r = 0
  · have f1 : X 18 2 = nI 0 := by rw [r2, c]
    have f2 : N 1 30 = nI 0 := by rw [r3, c]
    refine ⟨Int32.ofInt (-2), X, N, fun Q hQ => ?_, fun Q hQ => ?_, hR.up⟩
    · rw [eS133]; exact ⟨rfl, px, Qe hQ (if_pos f1) (if_pos f1)⟩
    · rw [eS211]; exact ⟨rfl, pn, Qe hQ (if_pos f2) (if_pos f2)⟩
  have f1 : ¬ X 18 2 = nI 0 := fun z => c (nI_inj (r2.symm.trans z) (by omega) (by decide))
  have f2 : ¬ N 1 30 = nI 0 := fun z => c (nI_inj (r3.symm.trans z) (by omega) (by decide))
  have h := RR_rm hR
  have n6 := h.n6.1
  have hrow := hR.rm_row r2
  have krow : kpM N 1 30 = nI r := by rw [kpM_lo (by decide)]; exact r3
  refine ⟨nI (r - 1), uwM (rmM X) 18, uwY (kpM N), fun Q hQ => ?_, fun Q hQ => ?_, ?_⟩
  · rw [eS133]
    refine ⟨rfl, px, ?_⟩
    rw [r2, q_cl (by omega)]
    rw [r2] at f1
    exact Qe hQ (if_neg f1) (if_neg f1)
  · rw [eS211]
    refine ⟨rfl, pn, ?_⟩
    rw [r3, q_cl (by omega)]
    rw [r3] at f2
    exact Qe hQ (if_neg f2) (if_neg f2)
  · obtain ⟨hf, r', hr', g2, g3, g4⟩ := h.cl
    obtain rfl : r' = r := nI_inj (g2.symm.trans hrow) (by omega) (by omega)
    have s := (g4 (r' - 1) (by omega)).2.2
    have eX : ∀ q, ¬ q = 18 → ¬ q = 19 → uwM (rmM X) 18 q = rmM X q := fun q h1 h2 => by
      unfold uwM
      rw [q_wrO h2, q_upO h1]
    have eX2 : uwM (rmM X) 18 18 2 = nI (r' - 1) := by
      unfold uwM
      rw [q_wrO (by decide), q_upS, g2, q_cl (by omega)]
    have eX3 : ∀ j, j < 30 → uwM (rmM X) 18 19 j = rmM X 20 ((r' - 1) * 32 + 2 + j) := fun j hj => by
      unfold uwM
      rw [q_wrS, g2, q_cl (by omega)]
      have := @cpy_in (rmM X (18 + 2)) (rmM X (18 + 1)) ((r' - 1) * 32 + 2) 0 30 j hj
      rw [Nat.zero_add] at this
      exact this
    have eY : ∀ q, ¬ q = 1 → uwY (kpM N) q = kpM N q := fun q h1 => by
      unfold uwY
      rw [cpY_out h1, q_upO h1]
    have eY1 : ∀ j, j < 30 → uwY (kpM N) 1 j = kpM N 1 (31 + 32 * (r' - 1) + 2 + j) := fun j hj => by
      unfold uwY
      rw [krow, q_cl (by omega)]
      have := @cpY_in (mv_up (kpM N) 1 30 (nI (r' - 1))) (31 + 32 * (r' - 1) + 2) 0 30 j hj
      rw [Nat.zero_add] at this
      rw [this, q_upN (by omega)]
    have eY2 : uwY (kpM N) 1 30 = nI (r' - 1) := by
      unfold uwY
      rw [cpY_at (by omega), q_upS, krow, q_cl (by omega)]
    have eY3 : ∀ j, 30 < j → uwY (kpM N) 1 j = kpM N 1 j := fun j hj => by
      unfold uwY
      rw [cpY_at (by omega), q_upN (by omega)]
    refine (RR_cloth h ⟨fun q hq => eX q (by omega) (by omega), fun j hj => by rw [eX 0 (by decide) (by decide)]⟩ ⟨fun q hq => eY q (by omega), fun j hj => by rw [eY 0 (by decide)], fun j h1 h2 => eY3 j (by omega)⟩ (fun i hi => by rw [eX _ (by decide) (by decide)]; exact h.st i hi) ⟨fig_of s n6 (fun j hj => ?_) (fun j hj => ?_), r' - 1, by omega, eX2, eY2, fun i hi => ?_⟩).up
    · exact eX3 j hj
    · rw [Nat.zero_add, eY1 j hj, Nat.zero_add]
    · obtain ⟨a1, a2, a3⟩ := g4 i (by omega)
      have e20 : uwM (rmM X) 18 (18 + 2) = rmM X (18 + 2) := eX 20 (by decide) (by decide)
      unfold roR
      rw [e20, eY3 _ (by omega), eY3 _ (by omega)]
      exact ⟨a1, a2, fig_of a3 n6 (fun j _ => rfl) (fun j hj => eY3 _ (by omega))⟩
