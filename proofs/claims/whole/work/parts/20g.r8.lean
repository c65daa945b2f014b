def wbX (X : mv_Mem) (c p w r n : Nat) : mv_Mem := trM (mv_wr X (c + 2) (va_cpy (X (c + 1)) (X (c + 2)) 0 (r * 32 + 2) 30)) c 3 p w n
def wbY (N : mv_Mem) (b p w r n : Nat) : mv_Mem := trY (cpY N b (b + 31 + 32 * r + 2) 30) b p w n
theorem wbX_out {X : mv_Mem} {c p w r n b : Nat} (h1 : ¬ b = c + 1) (h2 : ¬ b = c + 2) : wbX X c p w r n b = X b := by
  unfold wbX
  rw [trM_out h1, q_wrO h2]
theorem wbY_out {N : mv_Mem} {b p w r n a : Nat} (h : ¬ a = 1) : wbY N b p w r n a = N a := by
  unfold wbY
  rw [trY_out h, cpY_out h]
theorem wvM_eq {X : mv_Mem} {c p w r n : Nat} (hc : 9 < c) (hr : (X c 2).toNatClampNeg = r) (hn : (X 3 0).toNatClampNeg = n) : wvM X c 3 p w = mv_up (mv_up (mv_up (wbX X c p w r n) (c + 2) (r * 32 + 0) (clX (wbX X c p w r n) 3 (tpX (wbX X c p w r n) c))) (c + 2) (r * 32 + 1) (slF (snF (wbX X c p w r n) c) n)) c 2 (nI (r + 1)) := by
  have o6 : wbX X c p w r n (3 + 3) = X (3 + 3) := wbX_out (by omega) (by omega)
  have o3 : wbX X c p w r n 3 = X 3 := wbX_out (by omega) (by omega)
  unfold clX tpX
  rw [o6, o3, hn]
  unfold wvM
  rw [hr, hn]
  rfl
theorem wvY_eq {N : mv_Mem} {b p w r n : Nat} (hr : (N 1 (b + 30)).toNatClampNeg = r) (hn : (N 0 3).toNatClampNeg = n) : wvY N b p w = mv_up (mv_up (mv_up (wbY N b p w r n) 1 (b + 31 + 32 * r) (coY (wbY N b p w r n) b)) 1 (b + 31 + 32 * r + 1) (slF (snY (wbY N b p w r n) b) n)) 1 (b + 30) (nI (r + 1)) := by
  unfold wvY wvA wbY
  rw [hr, hn]
theorem wbY_at {N : mv_Mem} {b p w r n j : Nat} (hn : n ≤ 6) (hr : r < 24) (hj : j < b ∨ b + 799 ≤ j) : wbY N b p w r n 1 j = N 1 j := by
  unfold wbY
  rw [trY_at n hn (by omega), cpY_at (by omega)]
section
variable {k : Nat} {X N : mv_Mem}
theorem wv_cR (h : RR k X N) {c b p w r : Nat} (hc : 9 < c) (hcl : cR (nX X) X N c b) (hp : p < (X 3 1).toNatClampNeg) (hw : w < 2) (h2 : X c 2 = nI r) (hr : r < 24) :
    cR (nX X) (wvM X c 3 p w) (wvY N b p w) c b ∧ (∀ j, j < b ∨ b + 799 ≤ j → wvY N b p w 1 j = N 1 j) ∧ wvM X c 3 p w c 2 = nI (r + 1) ∧ wvY N b p w 1 (b + 30) = nI (r + 1) ∧ clX (wvM X c 3 p w) 3 (tpX (wvM X c 3 p w) c) = coY (wvY N b p w) b := by
  obtain ⟨hf, r', hr', g2, g3, g4⟩ := hcl
  obtain rfl : r' = r := nI_inj (g2.symm.trans h2) (by omega) (by omega)
  have n6 := h.n6
  have n66 := n6.1
  have eM := wvM_eq (X := X) (c := c) (p := p) (w := w) (n := nX X) hc (by rw [g2, q_cl (by omega)]) rfl
  have eY := wvY_eq (N := N) (b := b) (p := p) (w := w) (by rw [g3, q_cl (by omega)]) n6.2.2.2
  have fB : figR (nX X) (wbX X c p w r' (nX X) (c + 1)) (fun j => wbY N b p w r' (nX X) 1 (b + j)) := by
    have a1 : ∀ q, ¬ q = c + 2 → (mv_wr X (c + 2) (va_cpy (X (c + 1)) (X (c + 2)) 0 (r' * 32 + 2) 30)) q = X q := fun q hq => q_wrO hq
    have a2 : ∀ q, ¬ q = 1 → (cpY N b (b + 31 + 32 * r' + 2) 30) q = N q := fun q hq => cpY_out hq
    refine (tr_fig (X := mv_wr X (c + 2) (va_cpy (X (c + 1)) (X (c + 2)) 0 (r' * 32 + 2) 30)) (N := cpY N b (b + 31 + 32 * r' + 2) 30) hc n66 hw ?_ ?_ ?_ ?_ ?_ (nX X) (Nat.le_refl _)).1
    · rw [a2 0 (by decide)]; exact h.l40
    · intro t ht
      rw [a2 2 (by decide), a1 4 (by omega)]
      exact h.k4 t ht
    · rw [a1 8 (by omega), a2 5 (by decide)]
      exact h.lo.2.2.2.2.2.2.2.2.2.2.1 p hp
    · rw [a1 3 (by omega), a2 0 (by decide)]
      exact h.e33
    · rw [a1 (c + 1) (by omega)]
      exact fig_of hf n66 (fun j _ => rfl) (fun j hj => cpY_at (by omega))
  have co : clX (wbX X c p w r' (nX X)) 3 (tpX (wbX X c p w r' (nX X)) c) = coY (wbY N b p w r' (nX X)) b :=
    lo_co h (by rw [wbX_out (by omega) (by omega)]) (wbX_out (by omega) (by omega)) (wbY_out (by decide)) (by rw [wbY_out (by decide)]) fB
  have fE : figR (nX X) (wvM X c 3 p w (c + 1)) (fun j => wvY N b p w 1 (b + j)) := by
    rw [eM, eY]
    refine fig_of fB n66 (fun j _ => ?_) (fun j hj => ?_)
    · rw [q_upO (by omega), q_upO (by omega), q_upO (by omega)]
    · rw [q_upN (by omega), q_upN (by omega), q_upN (by omega)]
  have c2 : wvM X c 3 p w c 2 = nI (r' + 1) := by rw [eM, q_upS]
  have y2 : wvY N b p w 1 (b + 30) = nI (r' + 1) := by rw [eY, q_upS]
  refine ⟨⟨fE, r' + 1, by omega, c2, y2, fun i hi => ?_⟩, fun j hj => ?_, c2, y2, ?_⟩
  · have wX : ∀ j, ¬ j = r' * 32 + 0 → ¬ j = r' * 32 + 1 → wvM X c 3 p w (c + 2) j = va_cpy (X (c + 1)) (X (c + 2)) 0 (r' * 32 + 2) 30 j := fun j j0 j1 => by
      rw [eM, q_upO (by omega), q_upN (by omega), q_upN (by omega)]
      unfold wbX
      rw [trM_out (by omega), q_wrS]
    have wY : ∀ j, ¬ j = b + 31 + 32 * r' → ¬ j = b + 31 + 32 * r' + 1 → b + 31 ≤ j → wvY N b p w 1 j = cpY N b (b + 31 + 32 * r' + 2) 30 1 j := fun j j0 j1 j2 => by
      rw [eY, q_upN (by omega), q_upN (by omega), q_upN (by omega)]
      unfold wbY
      rw [trY_at _ n66 (by omega)]
    by_cases ci : i = r'
    · subst ci
      refine ⟨?_, ?_, ?_⟩
      · rw [eM, eY, q_upO (by omega), q_upN (by omega), q_upS, q_upN (by omega), q_upN (by omega), q_upS, co]
      · rw [eM, eY, q_upO (by omega), q_upS, q_upN (by omega), q_upS]
        exact lo_sn fB
      · refine fig_of hf n66 (fun j hj => ?_) (fun j hj => ?_)
        · rw [wX _ (by omega) (by omega), cpy_in hj, Nat.zero_add]
        · rw [wY _ (by omega) (by omega) (by omega), cpY_in hj]
    · obtain ⟨a1, a2, a3⟩ := g4 i (by omega)
      refine ⟨?_, ?_, ?_⟩
      · rw [wX _ (by omega) (by omega), cpy_out (by omega), wY _ (by omega) (by omega) (by omega), cpY_at (by omega)]; exact a1
      · rw [wX _ (by omega) (by omega), cpy_out (by omega), wY _ (by omega) (by omega) (by omega), cpY_at (by omega)]; exact a2
      · refine fig_of a3 n66 (fun j hj => ?_) (fun j hj => ?_)
        · rw [wX _ (by omega) (by omega), cpy_out (by omega)]
        · rw [wY _ (by omega) (by omega) (by omega), cpY_at (by omega)]
  · rw [eY, q_upN (by omega), q_upN (by omega), q_upN (by omega), wbY_at n66 hr hj]
  · exact lo_co h (by rw [wvM_out (by omega) (by omega) (by omega)]) (wvM_out (by omega) (by omega) (by omega)) (wvY_out (by decide)) (by rw [wvY_out (by decide)]) fE
/-- a pick woven into the cloth -/
theorem RR_wv (h : RR k X N) {p w r : Nat} (hp : p < (X 3 1).toNatClampNeg) (hw : w < 2) (h2 : X 18 2 = nI r) (hr : r < 24) : RR k (wvM X 18 3 p w) (wvY N 0 p w) := by
  obtain ⟨a, b, -⟩ := wv_cR h (by decide) h.cl hp hw h2 hr
  refine RR_cloth h ⟨fun q hq => wvM_out (by omega) (by omega) (by omega), fun j hj => by rw [wvM_out (by decide) (by decide) (by decide)]⟩ ⟨fun q hq => wvY_out (by omega), fun j hj => by rw [wvY_out (by decide)], fun j h1 h2 => b j (by omega)⟩ (fun i hi => by rw [wvM_out (by decide) (by decide) (by decide)]; exact h.st i hi) a
end
