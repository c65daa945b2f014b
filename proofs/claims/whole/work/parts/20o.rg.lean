/-! bands -/
theorem wv_tj {k : Nat} {X N : mv_Mem} (h : RR k X N) {c b p w r : Nat} (hc : 9 < c) (hcl : cR (nX X) X N c b) (hp : p < (X 3 1).toNatClampNeg) (hw : w < 2) (h2 : X c 2 = nI r) (hr : r < 24) : wjF X c 3 p w = tjY (wvA N b) b p w (N 0 3).toNatClampNeg := by
  obtain ⟨hf, r', hr', g2, g3, g4⟩ := hcl
  obtain rfl : r' = r := nI_inj (g2.symm.trans h2) (by omega) (by omega)
  have n6 := h.n6
  have n66 := n6.1
  have a1 : ∀ q, ¬ q = c + 2 → (mv_wr X (c + 2) (va_cpy (X (c + 1)) (X (c + 2)) 0 (r' * 32 + 2) 30)) q = X q := fun q hq => q_wrO hq
  have a2 : ∀ q, ¬ q = 1 → (cpY N b (b + 31 + 32 * r' + 2) 30) q = N q := fun q hq => cpY_out hq
  unfold wjF wvA
  rw [g2, g3, q_cl (by omega), n6.2.2.2]
  refine (tr_fig (X := mv_wr X (c + 2) (va_cpy (X (c + 1)) (X (c + 2)) 0 (r' * 32 + 2) 30)) (N := cpY N b (b + 31 + 32 * r' + 2) 30) hc n66 hw ?_ ?_ ?_ ?_ ?_ (nX X) (Nat.le_refl _)).2
  · rw [a2 0 (by decide)]; exact h.l40
  · intro t ht
    rw [a2 2 (by decide), a1 4 (by omega)]
    exact h.k4 t ht
  · rw [a1 8 (by omega), a2 5 (by decide)]
    exact h.lo.2.2.2.2.2.2.2.2.2.2.1 p hp
  · rw [a1 3 (by omega), a2 0 (by decide)]
    exact h.e33
  · rw [a1 (c + 1) (by omega)]
    exact fig_of hf n66 (fun j _ => rfl) (fun j hj => cpY_at (by omega))
theorem bd_o {k z : Nat} : ∀ n i {X N : mv_Mem} (w j : Nat), RR k X N → cR (nX X) X N 21 8789 → (bdF z n i X w j).1 = (bdY z n i N w j).1 ∧ (bdF z n i X w j).2.1 = (bdY z n i N w j).2.1 ∧ RR k (bdF z n i X w j).2.2 (bdY z n i N w j).2.2
  | 0, i, X, N, w, j, h, hc => ⟨rfl, rfl, h⟩
  | n + 1, i, X, N, w, j, h, hc => by
    have n6 := h.n6
    have n66 := n6.1
    have pos := h.lo.2.2.2.2.2.2.1
    have posP := h.lo.2.2.2.2.2.2.2.1
    have e7 : (N 0 7).toNatClampNeg = (X 3 1).toNatClampNeg := by rw [h.lo.2.2.2.1]
    have st0 : ∀ {X' : mv_Mem}, X' 60 = X 60 → sT X' 57 := fun {X'} e i hi => by
      show ∃ k, k < 4096 ∧ X' 60 i = nI k
      rw [e]
      exact h.st i hi
    unfold bdF bdY
    by_cases c1 : drN z i % 8 = 7
    · rw [if_pos c1, if_pos c1]
      refine bd_o n (i + 1) w j (RR_scr h (fun b hb => q_upO (by omega)) (st0 (q_upO (by decide))) (fun b hb => q_upO (by omega)) (fun j hj => by rw [q_upO (by decide)]) (fun j hj => q_upN (by omega))) ?_
      have enX : nX (mv_up X 21 2 (nI 0)) = nX X := by unfold nX; rw [q_upO (by decide)]
      rw [enX]
      exact ⟨fig_of hc.1 n66 (fun j hj => by rw [q_upO (by decide)]) (fun j hj => q_upN (by omega)), 0, by decide, q_upS, q_upS, fun i hi => absurd hi (by omega)⟩
    rw [if_neg c1, if_neg c1]
    by_cases c2 : drN z i % 8 = 6
    · rw [if_pos c2, if_pos c2]
      have x0 : ¬ X 3 0 = nI 0 := fun y => by
        unfold nX at pos
        rw [y, q_cl (by decide)] at pos
        omega
      have ecm : cmM X (drN z i) = mv_up X 22 ((drN z i / 8 % nX X) * 5 + 1) (nI 0) := by
        unfold cmM
        rw [if_neg x0]
        rfl
      have ht : drN z i / 8 % nX X < nX X := Nat.mod_lt _ pos
      rw [ecm, n6.2.2.2]
      generalize drN z i / 8 % nX X = t at ht ⊢
      refine bd_o n (i + 1) w j (RR_scr h (fun b hb => q_upO (by omega)) (st0 (q_upO (by decide))) (fun b hb => q_upO (by omega)) (fun j hj => by rw [q_upO (by decide)]) (fun j hj => q_upN (by omega))) ?_
      have enX : nX (mv_up X 22 (t * 5 + 1) (nI 0)) = nX X := by unfold nX; rw [q_upO (by decide)]
      rw [enX]
      have f := hc.1.1 t ht
      unfold fgR at f
      refine cR_fig hc (fig_set hc.1 n66 ht (fun j h1 h2 => q_upN (by omega)) (fun g s h1 h2 h3 => q_upN (by omega)) ?_) n66 (by rw [q_upO (by decide)]) (fun j => by rw [q_upO (by decide)]) (fun j h1 h2 => q_upN (by omega))
      unfold fgR
      dsimp only at f ⊢
      rw [show 8801 + t = 8789 + (12 + t) by omega]
      simp (disch := omega) only [Nat.reduceAdd, q_upS, q_upN] at f ⊢
      exact ⟨f.1, f.2.1, ⟨trivial, 40, by decide, by decide⟩, f.2.2.2⟩
    rw [if_neg c2, if_neg c2]
    have hc2 := hc
    obtain ⟨-, r, hr, g2, g3, -⟩ := hc2
    rw [g2, g3, q_cl (by omega)]
    by_cases c3 : r < 24
    · rw [if_pos ⟨c3, posP⟩, if_pos c3, e7]
      have hq : drN z i / 8 % (X 3 1).toNatClampNeg < (X 3 1).toNatClampNeg := Nat.mod_lt _ posP
      have hv : drN z i / 64 % 2 < 2 := Nat.mod_lt _ (by decide)
      obtain ⟨a, b, -⟩ := wv_cR h (by decide) hc hq hv g2 c3
      rw [wv_tj h (by decide) hc hq hv g2 c3]
      have enX : nX (wvM X 21 3 (drN z i / 8 % (X 3 1).toNatClampNeg) (drN z i / 64 % 2)) = nX X := by unfold nX; rw [wvM_out (by decide) (by decide) (by decide)]
      exact bd_o n (i + 1) _ _ (RR_scr h (fun b hb => wvM_out (by omega) (by omega) (by omega)) (st0 (wvM_out (by decide) (by decide) (by decide))) (fun b hb => wvY_out (by omega)) (fun j hj => by rw [wvY_out (by decide)]) (fun j hj => b j (by omega))) (by rw [enX]; exact a)
    · rw [if_neg (fun y => c3 y.1), if_neg c3]
      exact bd_o n (i + 1) w j h hc
theorem tw_bands (x y z : Int32) : twn 79 174 [.ref 0, .int x, .int y, .int z] := by
  apply twn_of
  intro k sx sn X N hk ox om hR
  have px : oX sx ∧ gL X 3 ∧ (∃ r, r < 25 ∧ X 18 2 = nI r) := ⟨ox, hR.lo.1, hR.r25⟩
  have n6 := hR.n6
  have pn : oM sn ∧ gM N ∧ cY N 0 ∧ (∃ r, r < 25 ∧ N 1 30 = nI r) ∧ 0 < (N 0 3).toNatClampNeg ∧ 0 < (N 0 7).toNatClampNeg := ⟨om, hR.gm, hR.cy, hR.q25, by rw [n6.2.2.2]; exact hR.lo.2.2.2.2.2.2.1, by rw [← hR.lo.2.2.2.1]; exact hR.lo.2.2.2.2.2.2.2.1⟩
  by_cases c1 : x < nI 0
  · refine ⟨Int32.ofInt (-1), X, N, fun Q hQ => ?_, fun Q hQ => ?_, hR.up⟩
    · rw [eS79]; exact ⟨x, y, z, rfl, px, Qe hQ (if_pos c1) (if_pos c1)⟩
    · rw [eS174]; exact ⟨x, y, z, rfl, pn, Qe hQ (if_pos c1) (if_pos c1)⟩
  by_cases c2 : nI 9999 < x
  · refine ⟨Int32.ofInt (-1), X, N, fun Q hQ => ?_, fun Q hQ => ?_, hR.up⟩
    · rw [eS79]; exact ⟨x, y, z, rfl, px, Qe hQ ((if_neg c1).trans (if_pos c2)) ((if_neg c1).trans (if_pos c2))⟩
    · rw [eS174]; exact ⟨x, y, z, rfl, pn, Qe hQ ((if_neg c1).trans (if_pos c2)) ((if_neg c1).trans (if_pos c2))⟩
  by_cases c3 : y < nI 1
  · refine ⟨Int32.ofInt (-1), X, N, fun Q hQ => ?_, fun Q hQ => ?_, hR.up⟩
    · rw [eS79]; exact ⟨x, y, z, rfl, px, Qe hQ ((if_neg c1).trans ((if_neg c2).trans (if_pos c3))) ((if_neg c1).trans ((if_neg c2).trans (if_pos c3)))⟩
    · rw [eS174]; exact ⟨x, y, z, rfl, pn, Qe hQ ((if_neg c1).trans ((if_neg c2).trans (if_pos c3))) ((if_neg c1).trans ((if_neg c2).trans (if_pos c3)))⟩
  by_cases c4 : nI 60 < y
  · refine ⟨Int32.ofInt (-1), X, N, fun Q hQ => ?_, fun Q hQ => ?_, hR.up⟩
    · rw [eS79]; exact ⟨x, y, z, rfl, px, Qe hQ ((if_neg c1).trans ((if_neg c2).trans ((if_neg c3).trans (if_pos c4)))) ((if_neg c1).trans ((if_neg c2).trans ((if_neg c3).trans (if_pos c4))))⟩
    · rw [eS174]; exact ⟨x, y, z, rfl, pn, Qe hQ ((if_neg c1).trans ((if_neg c2).trans ((if_neg c3).trans (if_pos c4)))) ((if_neg c1).trans ((if_neg c2).trans ((if_neg c3).trans (if_pos c4))))⟩
  by_cases c5 : z < nI 0
  · refine ⟨Int32.ofInt (-1), X, N, fun Q hQ => ?_, fun Q hQ => ?_, hR.up⟩
    · rw [eS79]; exact ⟨x, y, z, rfl, px, Qe hQ ((if_neg c1).trans ((if_neg c2).trans ((if_neg c3).trans ((if_neg c4).trans (if_pos c5))))) ((if_neg c1).trans ((if_neg c2).trans ((if_neg c3).trans ((if_neg c4).trans (if_pos c5)))))⟩
    · rw [eS174]; exact ⟨x, y, z, rfl, pn, Qe hQ ((if_neg c1).trans ((if_neg c2).trans ((if_neg c3).trans ((if_neg c4).trans (if_pos c5))))) ((if_neg c1).trans ((if_neg c2).trans ((if_neg c3).trans ((if_neg c4).trans (if_pos c5)))))⟩
  by_cases c6 : nI 1 < z
  · refine ⟨Int32.ofInt (-1), X, N, fun Q hQ => ?_, fun Q hQ => ?_, hR.up⟩
    · rw [eS79]; exact ⟨x, y, z, rfl, px, Qe hQ ((if_neg c1).trans ((if_neg c2).trans ((if_neg c3).trans ((if_neg c4).trans ((if_neg c5).trans (if_pos c6)))))) ((if_neg c1).trans ((if_neg c2).trans ((if_neg c3).trans ((if_neg c4).trans ((if_neg c5).trans (if_pos c6))))))⟩
    · rw [eS174]; exact ⟨x, y, z, rfl, pn, Qe hQ ((if_neg c1).trans ((if_neg c2).trans ((if_neg c3).trans ((if_neg c4).trans ((if_neg c5).trans (if_pos c6)))))) ((if_neg c1).trans ((if_neg c2).trans ((if_neg c3).trans ((if_neg c4).trans ((if_neg c5).trans (if_pos c6))))))⟩
  obtain ⟨h, hc⟩ := RR_tri hR
  have enX : nX (cpM X 21 18) = nX X := by unfold nX; rw [cpM_out (by decide) (by decide) (by decide)]
  have j := bd_o (z := x.toNatClampNeg) y.toNatClampNeg 0 0 0 h (by rw [enX]; exact hc)
  have eN : ∀ {α : Type} (a b : α), (if x < nI 0 then a else if nI 9999 < x then a else if y < nI 1 then a else if nI 60 < y then a else if z < nI 0 then a else if nI 1 < z then a else b) = b := fun a b => (if_neg c1).trans ((if_neg c2).trans ((if_neg c3).trans ((if_neg c4).trans ((if_neg c5).trans (if_neg c6)))))
  refine ⟨if z = nI 0 then nI (bdX X x.toNatClampNeg y.toNatClampNeg).1 else nI (bdX X x.toNatClampNeg y.toNatClampNeg).2.1, (bdX X x.toNatClampNeg y.toNatClampNeg).2.2, (bdZ N x.toNatClampNeg y.toNatClampNeg).2.2, fun Q hQ => ?_, fun Q hQ => ?_, j.2.2.up⟩
  · rw [eS79]; exact ⟨x, y, z, rfl, px, Qe hQ (eN _ _) (eN _ _)⟩
  · rw [eS174]
    refine ⟨x, y, z, rfl, pn, Qe hQ ((eN _ _).trans ?_) (eN _ _)⟩
    show (if z = nI 0 then nI (bdY x.toNatClampNeg y.toNatClampNeg 0 (cpY N 0 8789 799) 0 0).1 else nI (bdY x.toNatClampNeg y.toNatClampNeg 0 (cpY N 0 8789 799) 0 0).2.1) = (if z = nI 0 then nI (bdF x.toNatClampNeg y.toNatClampNeg 0 (cpM X 21 18) 0 0).1 else nI (bdF x.toNatClampNeg y.toNatClampNeg 0 (cpM X 21 18) 0 0).2.1)
    rw [j.1, j.2.1]
