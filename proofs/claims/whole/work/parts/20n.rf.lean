/-! trials: only scratch changes -/
theorem RR_scr {k : Nat} {X N X' N' : mv_Mem} (h : RR k X N) (hX : ∀ b, b < 21 ∨ (23 < b ∧ b < 57) ∨ b = 61 → X' b = X b) (st : sT X' 57) (hN : ∀ b, b = 2 ∨ b = 3 ∨ b = 5 ∨ b = 6 ∨ b = 7 ∨ b = 8 → N' b = N b) (f0 : ∀ j, j = 1 ∨ j = 2 ∨ j = 3 ∨ j = 7 ∨ j = 9 ∨ j = 10 ∨ j = 13 ∨ j = 14 → N' 0 j = N 0 j) (f1 : ∀ j, j < 8789 → N' 1 j = N 1 j) : RR k X' N' := by
  refine RR_cloth h ⟨fun b hb => hX b (by omega), fun j hj => by rw [hX 0 (by decide)]⟩ ⟨hN, f0, fun j h1 h2 => f1 j h2⟩ st ?_
  refine cR_of h.cl h.n6.1 ?_ (fun j _ => ?_) (fun j _ => ?_) (fun j hj => f1 _ (by omega))
  · rw [hX 18 (by decide)]
  · rw [hX (18 + 1) (by decide)]
  · rw [hX (18 + 2) (by decide)]
theorem jmI_o {b : Nat} (h : ¬ b = 22) : ∀ n i (M : mv_Mem), (jmI n i M).2 b = M b
  | 0, _, _ => rfl
  | n + 1, i, M => by
    unfold jmI
    split
    · rw [jmI_o h n, trM_out (by omega)]
    · exact trM_out (by omega) _
theorem jmA_o {b : Nat} (h : ¬ b = 1) : ∀ n i (M : mv_Mem) j, (jmA 0 n i M j).2 b = M b
  | 0, _, _, _ => rfl
  | n + 1, i, M, j => by
    unfold jmA
    rw [jmA_o h n, trY_out h]
theorem jmA_1 {q : Nat} (h : q < 8789) : ∀ n i (M : mv_Mem) j, (M 0 3).toNatClampNeg ≤ 6 → (jmA 0 n i M j).2 1 q = M 1 q
  | 0, _, _, _, _ => rfl
  | n + 1, i, M, j, h6 => by
    unfold jmA
    rw [jmA_1 h n _ _ _ (by rw [trY_out (by decide)]; exact h6), trY_at _ h6 (by omega)]
theorem jmA_le : ∀ n i (M : mv_Mem) j, j ≤ (jmA 0 n i M j).1
  | 0, _, _, _ => Nat.le_refl _
  | n + 1, i, M, j => by
    unfold jmA
    exact Nat.le_trans (Nat.le_add_right _ _) (jmA_le n _ _ _)
theorem jm_r {k : Nat} : ∀ n i {X N : mv_Mem} (j : Nat), RR k X N → figR (nX X) (X 22) (fun q => N 1 (8789 + q)) → i + n ≤ (X 3 2).toNatClampNeg →
    ((jmI n i X).1 = 0 ∧ (jmA 0 n i N j).1 = j ∧ RR k (jmI n i X).2 (jmA 0 n i N j).2 ∧ figR (nX X) ((jmI n i X).2 22) (fun q => (jmA 0 n i N j).2 1 (8789 + q))) ∨ ((jmI n i X).1 = 1 ∧ j < (jmA 0 n i N j).1 ∧ RR k (jmI n i X).2 (jmA 0 n i N j).2)
  | 0, i, X, N, j, h, f, _ => Or.inl ⟨rfl, rfl, h, f⟩
  | n + 1, i, X, N, j, h, f, hi => by
    obtain ⟨q, w, hq, hw, e1, e2⟩ := h.pk (i := i) (by omega)
    obtain ⟨p, hp6, -, -, ep⟩ := h.p31
    have n6 := h.n6
    obtain ⟨g, tj⟩ := tr_fig (X := X) (N := N) (c := 21) (b := 8789) (p := q) (w := w) (by decide) n6.1 hw h.l40 h.k4 (h.lo.2.2.2.2.2.2.2.2.2.2.1 q hq) h.e33 f (nX X) (Nat.le_refl _)
    have eI : jmI (n + 1) i X = if tjF X 21 3 q w (nX X) = 0 then jmI n (i + 1) (trM X 21 3 q w (nX X)) else (1, trM X 21 3 q w (nX X)) := by
      rw [jmI, e1, q_cl (by omega), show (10 * q + w) / 10 = q by omega, show (10 * q + w) % 10 = w by omega]
      rfl
    have eA : jmA 0 (n + 1) i N j = jmA 0 n (i + 1) (trY N 8789 q w (nX X)) (j + tjY N 8789 q w (nX X)) := by
      rw [jmA, e2, q_cl (by omega), show (10 * q + w) / 10 = q by omega, show (10 * q + w) % 10 = w by omega, n6.2.2.2]
    have o1 : ∀ b, ¬ b = 22 → trM X 21 3 q w (nX X) b = X b := fun b hb => trM_out (by omega) _
    have o2 : ∀ b, ¬ b = 1 → trY N 8789 q w (nX X) b = N b := fun b hb => trY_out hb _
    have o3 : ∀ j, j < 8789 → trY N 8789 q w (nX X) 1 j = N 1 j := fun j hj => trY_at _ n6.1 (by omega)
    have h' : RR k (trM X 21 3 q w (nX X)) (trY N 8789 q w (nX X)) := RR_scr h (fun b hb => o1 b (by omega)) (fun i hi => by rw [o1 _ (by decide)]; exact h.st i hi) (fun b hb => o2 b (by omega)) (fun j hj => by rw [o2 0 (by decide)]) o3
    rw [eI, eA]
    by_cases c : tjF X 21 3 q w (nX X) = 0
    · rw [if_pos c, ← tj, c, Nat.add_zero]
      have enX : nX (trM X 21 3 q w (nX X)) = nX X := by show (trM X 21 3 q w (nX X) 3 0).toNatClampNeg = _; rw [o1 3 (by decide)]; rfl
      have r := jm_r n (i + 1) j h' (by rw [enX]; exact g) (by rw [o1 3 (by decide)]; omega)
      rw [enX] at r
      exact r
    · rw [if_neg c]
      refine Or.inr ⟨rfl, ?_, ?_⟩
      · have := jmA_le n (i + 1) (trY N 8789 q w (nX X)) (j + tjY N 8789 q w (nX X))
        rw [← tj] at this ⊢
        omega
      · exact RR_scr h (fun b hb => o1 b (by omega)) h'.st (fun b hb => by rw [jmA_o (by omega), o2 b (by omega)]) (fun j hj => by rw [jmA_o (by decide), o2 0 (by decide)]) (fun j hj => by rw [jmA_1 hj _ _ _ _ (by rw [o2 0 (by decide), n6.2.2.2]; exact n6.1), o3 j hj])
theorem jm_o {k K : Nat} : ∀ n t {X N : mv_Mem}, RR k X N → figR (nX X) (X 22) (fun q => N 1 (8789 + q)) → K = (X 3 2).toNatClampNeg → (jmO K n t X).1 = (jmB K n t N).1 ∧ RR k (jmO K n t X).2 (jmB K n t N).2
  | 0, t, X, N, h, f, _ => ⟨rfl, h⟩
  | n + 1, t, X, N, h, f, hK => by
    have r := jm_r K 0 0 h f (by omega)
    unfold jmO jmB
    rcases r with ⟨a, b, c, d⟩ | ⟨a, b, c⟩
    · rw [a, b, if_neg (by decide), if_neg (by omega)]
      have e3 : (jmI K 0 X).2 3 = X 3 := jmI_o (by decide) _ _ _
      have enX : nX (jmI K 0 X).2 = nX X := by unfold nX; rw [e3]
      exact jm_o n (t + 1) c (by rw [enX]; exact d) (by rw [e3]; exact hK)
    · rw [a, if_pos rfl, if_pos b]
      exact ⟨rfl, c⟩
theorem RR_tri {k : Nat} {X N : mv_Mem} (h : RR k X N) : RR k (cpM X 21 18) (cpY N 0 8789 799) ∧ cR (nX X) (cpM X 21 18) (cpY N 0 8789 799) 21 8789 := by
  have o1 : ∀ b, ¬ b = 21 → ¬ b = 22 → ¬ b = 23 → cpM X 21 18 b = X b := fun b h1 h2 h3 => cpM_out h1 h2 h3
  refine ⟨RR_scr h (fun b hb => o1 b (by omega) (by omega) (by omega)) (fun i hi => by rw [o1 _ (by decide) (by decide) (by decide)]; exact h.st i hi) (fun b hb => cpY_out (by omega)) (fun j hj => by rw [cpY_out (by decide)]) (fun j hj => cpY_at (by omega)), ?_⟩
  exact cp_cR h.cl h.n6.1 (fun j hj => by rw [cpY_in hj])
theorem tw_jammed : twn 109 195 [.ref 0] := by
  apply twn_of
  intro k sx sn X N hk ox om hR
  obtain ⟨h, hc⟩ := RR_tri hR
  have e3 : cpM X 21 18 3 = X 3 := cpM_out (by decide) (by decide) (by decide)
  have enX : nX (cpM X 21 18) = nX X := by unfold nX; rw [e3]
  have j := jm_o (K := (X 3 2).toNatClampNeg) 60 1 h (by rw [enX]; exact hc.1) (by rw [e3])
  have eN : jmY N = jmB (X 3 2).toNatClampNeg 60 1 (cpY N 0 8789 799) := by unfold jmY; rw [hR.lo.2.2.2.2.1]
  refine ⟨(jmX X).1, (jmX X).2, (jmY N).2, fun Q hQ => ?_, fun Q hQ => ?_, ?_⟩
  · rw [eS109]
    exact ⟨rfl, ⟨ox, hR.lo.1, hR.r25⟩, hQ⟩
  · rw [eS195]
    exact ⟨rfl, ⟨om, hR.gm, hR.cy⟩, Qe hQ (by rw [eN]; exact j.1.symm) rfl⟩
  · rw [eN]
    exact j.2.up
