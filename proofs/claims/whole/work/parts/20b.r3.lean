/-! what a change leaves alike -/
theorem fig_of {n : Nat} {F G F' G' : Nat → Int32} (h : figR n F G) (hn : n ≤ 6) (e1 : ∀ j, j < 30 → F' j = F j) (e2 : ∀ j, j < 30 → G' j = G j) : figR n F' G' := by
  refine ⟨fun t ht => ?_, fun t h1 h2 => by rw [e1 _ (by omega)]; exact h.2 t h1 h2⟩
  have f := h.1 t ht
  unfold fgR at f ⊢
  rw [e1 _ (by omega), e1 _ (by omega), e1 _ (by omega), e1 _ (by omega), e1 _ (by omega), e2 _ (by omega), e2 _ (by omega), e2 _ (by omega), e2 _ (by omega), e2 _ (by omega)]
  exact f
theorem cR_of {n : Nat} {X N X' N' : mv_Mem} {c b c' b' : Nat} (h : cR n X N c b) (hn : n ≤ 6) (e0 : X' c' 2 = X c 2) (e1 : ∀ j, j < 30 → X' (c' + 1) j = X (c + 1) j) (e2 : ∀ j, j < (X c 2).toNatClampNeg * 32 → X' (c' + 2) j = X (c + 2) j) (f : ∀ j, j < 799 → N' 1 (b' + j) = N 1 (b + j)) : cR n X' N' c' b' := by
  obtain ⟨h0, r, hr, h1, h2, h3⟩ := h
  refine ⟨fig_of h0 hn e1 (fun j hj => f j (by omega)), r, hr, e0.trans h1, (f 30 (by omega)).trans h2, fun i hi => ?_⟩
  rw [h1, q_cl (by omega)] at e2
  obtain ⟨a1, a2, a3⟩ := h3 i hi
  refine ⟨?_, ?_, fig_of a3 hn (fun j hj => e2 _ (by omega)) (fun j hj => ?_)⟩
  · rw [e2 _ (by omega), a1, Nat.add_assoc, Nat.add_assoc, f _ (by omega)]
  · rw [e2 _ (by omega), a2, Nat.add_assoc, Nat.add_assoc, Nat.add_assoc, Nat.add_assoc, f _ (by omega)]
  · rw [Nat.add_assoc, Nat.add_assoc, Nat.add_assoc, Nat.add_assoc, Nat.add_assoc, Nat.add_assoc, f _ (by omega)]
theorem lo_of {X N X' N' : mv_Mem} (h : loR X N) (hX : ∀ b, 3 ≤ b → b < 10 → X' b = X b) (hN : ∀ b, b = 2 ∨ b = 3 ∨ b = 5 ∨ b = 6 → N' b = N b) (h0 : ∀ j, j = 3 ∨ j = 7 ∨ j = 9 ∨ j = 10 → N' 0 j = N 0 j) : loR X' N' := by
  unfold loR gL nX at *
  obtain ⟨a1, a2, a3⟩ := h
  refine ⟨?_, gM_of a2 (h0 3 (by omega)) (h0 7 (by omega)) (h0 9 (by omega)) (h0 10 (by omega)) (hN 2 (by omega)) (hN 3 (by omega)) (hN 5 (by omega)) (hN 6 (by omega)), ?_⟩
  · rw [hX 3 (by omega) (by omega), hX (3 + 1) (by omega) (by omega), hX (3 + 2) (by omega) (by omega), hX (3 + 3) (by omega) (by omega), hX (3 + 4) (by omega) (by omega), hX (3 + 5) (by omega) (by omega), hX (3 + 6) (by omega) (by omega)]
    exact a1
  · rw [hX 3 (by omega) (by omega), hX 4 (by omega) (by omega), hX 6 (by omega) (by omega), hX 7 (by omega) (by omega), hX 8 (by omega) (by omega), hX 9 (by omega) (by omega), hN 2 (by omega), hN 3 (by omega), hN 5 (by omega), hN 6 (by omega), h0 3 (by omega), h0 7 (by omega), h0 9 (by omega), h0 10 (by omega)]
    exact a3
theorem gL_ofe {M M' : mv_Mem} {a : Nat} (h : gL M a) (e : ∀ b, a ≤ b → b < a + 7 → M' b = M b) : gL M' a := by
  unfold gL at *
  rw [e a (by omega) (by omega), e (a + 1) (by omega) (by omega), e (a + 2) (by omega) (by omega), e (a + 3) (by omega) (by omega), e (a + 4) (by omega) (by omega), e (a + 5) (by omega) (by omega), e (a + 6) (by omega) (by omega)]
  exact h
theorem tX_ofe {M M' : mv_Mem} (h : tX M) (e1 : M' 1 = M 1) (e2 : M' 61 = M 61) : tX M' := by
  unfold tX at *
  rw [e1, e2]
  exact h
theorem lx_ofe {M M' : mv_Mem} (e1 : M' 1 = M 1) (e2 : M' 61 = M 61) : lx M' = lx M := by
  funext p
  unfold lx
  rw [e1, e2]
theorem tY_ofe {M M' : mv_Mem} (h : tY M) (e1 : M' 0 13 = M 0 13) (e2 : M' 7 = M 7) : tY M' := by
  unfold tY at *
  rw [e1, e2]
  exact h
theorem ly_ofe {M M' : mv_Mem} (e1 : M' 0 13 = M 0 13) (e2 : M' 7 = M 7) : ly M' = ly M := by
  funext p
  unfold ly
  rw [e1, e2]
/-- the cells that the class keeps when only its cloth and its scratch change -/
def keX (X X' : mv_Mem) : Prop := (∀ b, b = 1 ∨ (3 ≤ b ∧ b < 10) ∨ (11 ≤ b ∧ b < 18) ∨ (25 ≤ b ∧ b < 57) ∨ b = 61 → X' b = X b) ∧ ∀ j, j = 6 ∨ j = 7 ∨ j = 9 ∨ j = 11 → X' 0 j = X 0 j
def keN (N N' : mv_Mem) : Prop := (∀ b, b = 2 ∨ b = 3 ∨ b = 5 ∨ b = 6 ∨ b = 7 ∨ b = 8 → N' b = N b) ∧ (∀ j, j = 1 ∨ j = 2 ∨ j = 3 ∨ j = 7 ∨ j = 9 ∨ j = 10 ∨ j = 13 ∨ j = 14 → N' 0 j = N 0 j) ∧ ∀ j, 799 ≤ j → j < 8789 → N' 1 j = N 1 j
theorem RR_cloth {k : Nat} {X N X' N' : mv_Mem} (h : RR k X N) (hX : keX X X') (hN : keN N N') (hst : sT X' 57) (hcl : cR (nX X) X' N' 18 0) : RR k X' N' := by
  obtain ⟨hX, h0⟩ := hX
  obtain ⟨hN, f0, f1⟩ := hN
  have n6 := h.n6.1
  have enX : nX X' = nX X := by unfold nX; rw [hX 3 (by omega)]
  have e1 : X' 1 = X 1 := hX 1 (by omega)
  have e61 : X' 61 = X 61 := hX 61 (by omega)
  unfold RR RR_lo RR_cl RR_un RR_ri RR_ke RR_se RR_st RR_tx RR_gl RR_ty RR_le RR_ln
  rw [enX]
  refine ⟨lo_of h.lo (fun b h1 h2 => hX b (by omega)) (fun b hb => hN b (by omega)) (fun j hj => f0 j (by omega)), hcl, ?_, ?_, ?_, ?_, hst, tX_ofe h.tx e1 e61, gL_ofe h.gl (fun b h1 h2 => hX b (by omega)), tY_ofe h.ty (f0 13 (by omega)) (hN 7 (by omega)), ?_, ?_⟩
  · obtain ⟨e, n, he, hn, a, b, c, d⟩ := h.un
    refine ⟨e, n, he, hn, by rw [h0 6 (by omega)]; exact a, (h0 7 (by omega)).trans b, (f0 1 (by omega)).trans c, fun i hi => ?_⟩
    have hm : (e + 8 - n + i) % 8 < 8 := Nat.mod_lt _ (by decide)
    refine cR_of (d i hi) n6 ?_ (fun j _ => ?_) (fun j _ => ?_) (fun j hj => f1 _ (by omega) (by omega))
    · rw [hX _ (by omega)]
    · rw [hX _ (by omega)]
    · rw [hX _ (by omega)]
  · intro i hi
    rw [hX _ (by omega)]
    exact h.ri i hi
  · obtain ⟨n, hn, a, b, d⟩ := h.ke
    refine ⟨n, hn, (h0 9 (by omega)).trans a, (f0 2 (by omega)).trans b, fun i hi => ?_⟩
    refine cR_of (d i hi) n6 ?_ (fun j _ => ?_) (fun j _ => ?_) (fun j hj => f1 _ (by omega) (by omega))
    · rw [hX _ (by omega)]
    · rw [hX _ (by omega)]
    · rw [hX _ (by omega)]
  · obtain ⟨n, hn, a, b, d⟩ := h.se
    refine ⟨n, hn, (h0 11 (by omega)).trans a, (f0 14 (by omega)).trans b, fun i hi => ?_⟩
    rw [hX 56 (by omega), hN 8 (by omega)]
    exact d i hi
  · rw [lx_ofe e1 e61, ly_ofe (f0 13 (by omega)) (hN 7 (by omega))]
    exact h.le
  · obtain ⟨n, hn, a, b⟩ := h.ln
    exact ⟨n, hn, by rw [e1]; exact a, by rw [f0 13 (by omega)]; exact b⟩
