/-! remembering -/
theorem cpM_f {M : mv_Mem} {c o j : Nat} (h : j < 30) : cpM M c o (c + 1) j = M (o + 1) j := by
  unfold cpM
  rw [q_wrO (by omega), q_wrS]
  have := @cpy_in (M (o + 1)) (M (c + 1)) 0 0 30 j h
  rw [Nat.zero_add] at this
  exact this
theorem cpM_r {M : mv_Mem} {c o j : Nat} (h : j < (M o 2).toNatClampNeg * 32) : cpM M c o (c + 2) j = M (o + 2) j := by
  unfold cpM
  rw [q_wrS]
  have := @cpy_in (M (o + 2)) (M (c + 2)) 0 0 _ j h
  rw [Nat.zero_add] at this
  exact this
theorem cp_cR {n : Nat} {X N N' : mv_Mem} {o b c b' : Nat} (h : cR n X N o b) (hn : n ≤ 6) (f : ∀ j, j < 799 → N' 1 (b' + j) = N 1 (b + j)) : cR n (cpM X c o) N' c b' :=
  cR_of h hn cpM_row (fun _ hj => cpM_f hj) (fun _ hj => cpM_r hj) f
theorem rmM_cell {X : mv_Mem} {b : Nat} (h : ¬ b = 0) : rmM X b = cpM X (25 + 3 * (X 0 6 &&& nI 7).toNatClampNeg) 18 b := by
  unfold rmM
  rw [q_upO h, q_upO h]
theorem kp_0 {N : mv_Mem} {n : Nat} (h : N 0 1 = nI n) (hn : n ≤ 8) : kpA N 0 1 = nI (if n = 8 then 7 else n) ∧ kpM N 0 1 = nI (if n = 8 then 8 else n + 1) := by
  have e : kpA N 0 1 = nI (if n = 8 then 7 else n) := by
    unfold kpA
    by_cases c : n = 8
    · subst c; rw [if_pos h, q_upS]; rfl
    · rw [if_neg (fun z => c (nI_inj (h.symm.trans z) (by omega) (by decide))), if_neg c]; exact h
  refine ⟨e, ?_⟩
  unfold kpM
  rw [q_upS, e, q_cl (by split <;> omega)]
  by_cases c : n = 8
  · rw [if_pos c, if_pos c]
  · rw [if_neg c, if_neg c]
theorem kpA_1 {N : mv_Mem} {n j : Nat} (h : N 0 1 = nI n) (hn : n ≤ 8) : kpA N 1 j = if n = 8 ∧ 799 ≤ j ∧ j < 6392 then N 1 (j + 799) else N 1 j := by
  unfold kpA
  by_cases c : n = 8
  · subst c
    rw [if_pos h, q_upO (by decide)]
    by_cases d : 799 ≤ j ∧ j < 6392
    · rw [if_pos ⟨rfl, d⟩]
      have := @cpY_in N 1598 799 5593 (j - 799) (by omega)
      rw [show 799 + (j - 799) = j by omega, show 1598 + (j - 799) = j + 799 by omega] at this
      exact this
    · rw [if_neg (fun z => d z.2), cpY_at (by omega)]
  · rw [if_neg (fun z => c (nI_inj (h.symm.trans z) (by omega) (by decide))), if_neg (fun z => c z.1)]
theorem kpM_1 {N : mv_Mem} {n j : Nat} (h : N 0 1 = nI n) (hn : n ≤ 8) : kpM N 1 j = if 799 + 799 * (if n = 8 then 7 else n) ≤ j ∧ j < 1598 + 799 * (if n = 8 then 7 else n) then N 1 (j - (799 + 799 * (if n = 8 then 7 else n))) else kpA N 1 j := by
  have e := (kp_0 h hn).1
  unfold kpM
  rw [q_upO (by decide), e, q_cl (by split <;> omega)]
  generalize (if n = 8 then 7 else n) = u
  by_cases d : 799 + 799 * u ≤ j ∧ j < 1598 + 799 * u
  · rw [if_pos d]
    have := @cpY_in (kpA N) 0 (799 + 799 * u) 799 (j - (799 + 799 * u)) (by omega)
    rw [show 799 + 799 * u + (j - (799 + 799 * u)) = j by omega, Nat.zero_add, kpA_1 h hn, if_neg (by omega)] at this
    exact this
  · rw [if_neg d, cpY_at (by omega)]
theorem RR_rm {k : Nat} {X N : mv_Mem} (h : RR k X N) : RR k (rmM X) (kpM N) := by
  obtain ⟨e, n, he, hn, x6, x7, y1, un⟩ := h.un
  have n6 := h.n6.1
  have c6 : (X 0 6 &&& nI 7).toNatClampNeg = e := by rw [x6, q_cl (by omega)]
  have c7 : (X 0 7).toNatClampNeg = n := by rw [x7, q_cl (by omega)]
  have xo : ∀ b, ¬ b = 0 → ¬ b = 25 + 3 * e → ¬ b = 25 + 3 * e + 1 → ¬ b = 25 + 3 * e + 2 → rmM X b = X b := fun b h0 h1 h2 h3 => by
    rw [rmM_cell h0, c6, cpM_out h1 h2 h3]
  have x0 : ∀ j, ¬ j = 6 → ¬ j = 7 → rmM X 0 j = X 0 j := fun j h1 h2 => by
    unfold rmM
    rw [q_upN (by omega), q_upN (by omega), cpM_out (by omega) (by omega) (by omega)]
  have x06 : rmM X 0 6 &&& nI 7 = nI (if e = 7 then 0 else e + 1) := by
    unfold rmM
    rw [q_upN (by decide), q_upS]
    exact rg_up x6 he
  have x07 : rmM X 0 7 = nI (if n = 8 then 8 else n + 1) := by
    unfold rmM
    rw [q_upS, c7]
  have enX : nX (rmM X) = nX X := by unfold nX; rw [xo 3 (by omega) (by omega) (by omega) (by omega)]
  have yo : ∀ b, ¬ b = 0 → ¬ b = 1 → kpM N b = N b := fun b h0 h1 => kpM_out h0 h1
  have y0 : ∀ j, ¬ j = 1 → kpM N 0 j = N 0 j := fun j hj => kpM_0 hj
  refine ⟨lo_of h.lo (fun b h1 h2 => xo b (by omega) (by omega) (by omega) (by omega)) (fun b hb => yo b (by omega) (by omega)) (fun j hj => y0 j (by omega)), ?_, ?_, ?_, ?_, ?_, ?_, ?_, ?_, ?_, ?_, ?_⟩
  · unfold RR_cl
    rw [enX]
    refine cR_of h.cl n6 ?_ (fun j _ => ?_) (fun j _ => ?_) (fun j hj => ?_)
    · rw [xo _ (by omega) (by omega) (by omega) (by omega)]
    · rw [xo _ (by omega) (by omega) (by omega) (by omega)]
    · rw [xo _ (by omega) (by omega) (by omega) (by omega)]
    · rw [kpM_lo (by omega)]
  · refine ⟨if e = 7 then 0 else e + 1, if n = 8 then 8 else n + 1, by split <;> omega, by split <;> omega, x06, x07, (kp_0 y1 hn).2, fun i hi => ?_⟩
    rw [enX]
    by_cases c : i = (if n = 8 then 7 else n)
    · have ei : ((if e = 7 then 0 else e + 1) + 8 - (if n = 8 then 8 else n + 1) + i) % 8 = e := by
        subst c; by_cases a : e = 7 <;> by_cases b : n = 8 <;> simp only [a, b, if_true, if_false] <;> omega
      rw [ei]
      have q : cR (nX X) (cpM X (25 + 3 * e) 18) (kpM N) (25 + 3 * e) (799 + 799 * i) := cp_cR h.cl n6 (fun j hj => by
        rw [kpM_1 y1 hn, ← c, if_pos (by omega), Nat.zero_add]
        congr 1
        omega)
      refine cR_of q n6 ?_ (fun j _ => ?_) (fun j _ => ?_) (fun j _ => rfl)
      · rw [rmM_cell (by omega), c6]
      · rw [rmM_cell (by omega), c6]
      · rw [rmM_cell (by omega), c6]
    · have hi2 : i < (if n = 8 then 7 else n) := by by_cases b : n = 8 <;> simp only [b, if_true, if_false] at hi c ⊢ <;> omega
      have key : ∃ i', i' < n ∧ ((if e = 7 then 0 else e + 1) + 8 - (if n = 8 then 8 else n + 1) + i) % 8 = (e + 8 - n + i') % 8 ∧ ¬ (e + 8 - n + i') % 8 = e ∧ i' = (if n = 8 then i + 1 else i) := by
        refine ⟨if n = 8 then i + 1 else i, ?_, ?_, ?_, rfl⟩
        · by_cases b : n = 8 <;> simp only [b, if_true, if_false] at hi2 ⊢ <;> omega
        · by_cases a : e = 7 <;> by_cases b : n = 8 <;> simp only [a, b, if_true, if_false] at hi2 ⊢ <;> omega
        · by_cases b : n = 8 <;> simp only [b, if_true, if_false] at hi2 ⊢ <;> omega
      obtain ⟨i', hi', ei, ne, ei'⟩ := key
      rw [ei]
      have hm : (e + 8 - n + i') % 8 < 8 := Nat.mod_lt _ (by decide)
      refine cR_of (un i' hi') n6 ?_ (fun j _ => ?_) (fun j _ => ?_) (fun j hj => ?_)
      · rw [xo _ (by omega) (by omega) (by omega) (by omega)]
      · rw [xo _ (by omega) (by omega) (by omega) (by omega)]
      · rw [xo _ (by omega) (by omega) (by omega) (by omega)]
      · rw [kpM_1 y1 hn, if_neg (by omega), kpA_1 y1 hn]
        by_cases b : n = 8
        · simp only [b, if_true] at hi2 ei'
          rw [if_pos ⟨b, by omega, by omega⟩]
          congr 1
          omega
        · simp only [b, if_false] at hi2 ei'
          rw [if_neg (fun z => b z.1), ei']
  · intro i hi
    by_cases c : i = e
    · subst c
      obtain ⟨r, h1, h2, -⟩ := h.ro
      exact ⟨r, h1, by rw [rmM_cell (by omega), c6, cpM_row]; exact h2⟩
    · rw [xo _ (by omega) (by omega) (by omega) (by omega)]
      exact h.ri i hi
  · obtain ⟨m, hm, a, b, d⟩ := h.ke
    refine ⟨m, hm, (x0 9 (by decide) (by decide)).trans a, (y0 2 (by decide)).trans b, fun i hi => ?_⟩
    rw [enX]
    refine cR_of (d i hi) n6 ?_ (fun j _ => ?_) (fun j _ => ?_) (fun j hj => ?_)
    · rw [xo _ (by omega) (by omega) (by omega) (by omega)]
    · rw [xo _ (by omega) (by omega) (by omega) (by omega)]
    · rw [xo _ (by omega) (by omega) (by omega) (by omega)]
    · rw [kpM_1 y1 hn, if_neg (by split <;> omega), kpA_1 y1 hn, if_neg (by omega)]
  · obtain ⟨m, hm, a, b, d⟩ := h.se
    refine ⟨m, hm, (x0 11 (by decide) (by decide)).trans a, (y0 14 (by decide)).trans b, fun i hi => ?_⟩
    rw [xo 56 (by omega) (by omega) (by omega) (by omega), yo 8 (by decide) (by decide)]
    exact d i hi
  · intro i hi
    rw [xo _ (by omega) (by omega) (by omega) (by omega)]
    exact h.st i hi
  · exact tX_ofe h.tx (xo _ (by omega) (by omega) (by omega) (by omega)) (xo _ (by omega) (by omega) (by omega) (by omega))
  · exact gL_ofe h.gl (fun b h1 h2 => xo _ (by omega) (by omega) (by omega) (by omega))
  · exact tY_ofe h.ty (y0 13 (by decide)) (yo 7 (by decide) (by decide))
  · unfold RR_le
    rw [lx_ofe (M := X) (xo _ (by omega) (by omega) (by omega) (by omega)) (xo _ (by omega) (by omega) (by omega) (by omega)), ly_ofe (M := N) (y0 13 (by decide)) (yo 7 (by decide) (by decide))]
    exact h.le
  · obtain ⟨m, hm, a, b⟩ := h.ln
    exact ⟨m, hm, by rw [xo _ (by omega) (by omega) (by omega) (by omega)]; exact a, by rw [y0 13 (by decide)]; exact b⟩
