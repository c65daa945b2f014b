section
variable {k : Nat} {X N : mv_Mem}
theorem RR.ep (h : RR k X N) : epY N = nI (2 ^ (X 3 1).toNatClampNeg - 1) ∧ (X 3 1).toNatClampNeg ≤ 6 ∧ (N 0 7).toNatClampNeg = (X 3 1).toNatClampNeg := by
  obtain ⟨n, hn, x1, y1, e⟩ := h.p31
  have a := (allP ⟨n, by omega⟩).1
  dsimp only at a
  refine ⟨?_, by omega, by rw [y1, e, q_cl (by omega)]⟩
  unfold epY
  rw [y1, e]
  exact a
/-- fewest: both searches end alike -/
theorem fw_run (h : RR k X N) {T v : Nat} (hT : T < 4 ^ nX X) (eT : hnY N = nI T) (hv : v < 10 ^ nX X) :
    (((skM X 57 3 T v).1 = Int32.ofInt (-1) ∧ (gtM (lhM N) (nI v) (epY N)).1 = Int32.ofInt (-4)) ∨ ∃ q, q < 4 ^ nX X ∧ (skM X 57 3 T v).1 = nI q ∧ (gtM (lhM N) (nI v) (epY N)).1 = nI q) ∧ BI (4 ^ nX X) (skM X 57 3 T v).2 (gtM (lhM N) (nI v) (epY N)).2 := by
  obtain ⟨eE, hP6, e7⟩ := h.ep
  have n6 := h.n6
  have p4 := p4_le n6.1
  have g := gS_lh h.gm
  rw [n6.2.2.2, e7] at g
  have e32 : (lhM N 0 32).toNatClampNeg = 4 ^ nX X := by rw [g.1, q_cl (by omega)]
  have eH : hnY (lhM N) = nI T := by
    unfold hnY at eT ⊢
    rw [lhM_0 (by decide), lhM_out (by decide) (by decide) (by decide) (by decide)]
    exact eT
  have g1 : gS (mv_up (fiM (lhM N) 20 (Int32.ofInt (-1)) (4 ^ nX X)) 0 36 (nI 0)) (4 ^ nX X) (X 3 1).toNatClampNeg := gS_of g (by rw [q_upN (by decide), fiM_out (by decide)]) (by rw [q_upN (by decide), fiM_out (by decide)]) (by rw [q_upO (by decide), fiM_out (by decide)])
  have i1 : gI (mv_up (fiM (lhM N) 20 (Int32.ofInt (-1)) (4 ^ nX X)) 0 36 (nI 0)) (4 ^ nX X) := ⟨0, q_upS, mtF_0 _ (fun i hi => by rw [q_upO (by decide), fiM_in _ _ hi]; decide), fun i hi => absurd hi (by omega)⟩
  have b0 : BI (4 ^ nX X) (mv_up (fiM (tsF X 57 3 (nX X) (X 3 1).toNatClampNeg) 59 (nI 0) 4096) 57 3 (nI 0)) (mv_up (fiM (lhM N) 20 (Int32.ofInt (-1)) (4 ^ nX X)) 0 36 (nI 0)) := by
    refine ⟨⟨0, by omega, q_upS, q_upS, fun i hi => absurd hi (by omega)⟩, fun q hq => Or.inl ⟨?_, ?_⟩⟩
    · rw [q_upO (by decide), fiM_in _ _ hq]; decide
    · rw [q_upO (by decide), fiM_in _ _ (by omega)]
  have b1 := en_co (q := T) (v := Int32.ofInt (-1)) (f := Int32.ofInt (-4)) (b := nI 99) b0 g1 i1 hT (Or.inl ⟨rfl, nI_pos (by decide), rfl⟩)
  have g2 := gS_co (h := T) (f := Int32.ofInt (-4)) (b := nI 99) g1
  have i2 := gI_co (h := T) (f := Int32.ofInt (-4)) (b := nI 99) g1 i1 hT (nI_pos (by decide))
  have eM : skM X 57 3 T v = skF 57 3 v (2 * (X 3 1).toNatClampNeg) 4096 0 (enM (mv_up (fiM (tsF X 57 3 (nX X) (X 3 1).toNatClampNeg) 59 (nI 0) 4096) 57 3 (nI 0)) 57 T (Int32.ofInt (-1))) := rfl
  have eN : gtM (lhM N) (nI v) (epY N) = gtF (nI v) (nI (2 ^ (X 3 1).toNatClampNeg - 1)) (4096 + 1) 0 (coM (mv_up (fiM (lhM N) 20 (Int32.ofInt (-1)) (4 ^ nX X)) 0 36 (nI 0)) T (Int32.ofInt (-4)) (nI 99)) := by
    unfold gtM gt0
    rw [e32, eH, q_cl (by omega), eE]
  rw [eM, eN]
  refine sk_gt hP6 4096 0 (by omega) b1 g2 i2 (fun s hs => ?_) (fun q hq => ?_)
  · rw [enM_out (by decide) (by decide) (by decide), coM_out (by decide) (by decide) (by decide) (by decide), q_upO (by decide), q_upO (by decide), fiM_out (by decide), fiM_out (by decide)]
    exact ts_st h rfl _ (Nat.le_refl _) s hs
  · rw [coM_out (by decide) (by decide) (by decide) (by decide), q_upO (by decide), fiM_out (by decide), lh_s16 h hq]
    have e := sh_iff h (x := q) hv
    unfold shB at e ⊢
    rw [enM_out (by decide) (by decide) (by decide), enM_out (by decide) (by decide) (by decide), q_upO (by decide), q_upO (by decide), fiM_out (by decide), fiM_out (by decide), tsF_out (by decide), tsF_out (by decide)]
    exact e
end
theorem cf_N {M : mv_Mem} {q h s : Nat} (hh : h < 4096) (hs : s < 12) (e : M 59 q = mkV h s) : cfF M 57 q = nI h ∧ ¬ M 59 q ≤ nI 0 ∧ pcF M 57 q = s := by
  have e2 := mkV_N hh (show s < 16 by omega)
  have ng : ¬ nI (1 + (16 * h + s)) ≤ nI 0 := fun y => by
    rw [q_lef (by omega) (by omega)] at y
    exact y
  have sb : nI (1 + (16 * h + s)) - nI 1 = nI (16 * h + s) := nI_sub
  refine ⟨?_, by rw [e, e2]; exact ng, ?_⟩
  · unfold cfF
    rw [show (57 + 2 : Nat) = 59 from rfl, e, e2, if_neg ng, sb, pk_shrN (by omega) _ 4 (by decide)]
    congr 1
    omega
  · unfold pcF
    rw [show (57 + 2 : Nat) = 59 from rfl, e, e2, sb, pk_andN (by omega) 4 (by decide), q_cl (by omega)]
    omega
