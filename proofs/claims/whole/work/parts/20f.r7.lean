/-! a tablet turned, a pick woven -/
theorem ts_fig {n : Nat} {X N : mv_Mem} {c b p w t : Nat} (ht : t < n) (hn : n ≤ 6) (hw : w < 2) (k4 : ∃ k, k < 4 ∧ N 2 t = nI k) (l40 : ∃ l, l ≤ 40 ∧ N 0 9 = nI l) (e4 : X 4 t = N 2 t) (e8 : X 8 p = N 5 p) (e3 : X 3 3 = N 0 9) (h : figR n (X (c + 1)) (fun j => N 1 (b + j))) :
    figR n (tsM X c 3 p w t (c + 1)) (fun j => tsY N b p w t 1 (b + j)) ∧ toF X c 3 p w t = toY N b p w t := by
  have f := h.1 t ht
  unfold fgR at f
  dsimp only at f
  have eo : toF X c 3 p w t = toY N b p w t := by
    unfold toF toY
    rw [show X (3 + 5) p = N 5 p from e8, show X (3 + 1) t = N 2 t from e4, e3, f.2.2.1.1, Nat.add_assoc]
  obtain ⟨kd, hk, ek⟩ := k4
  refine ⟨fig_set h hn ht (fun j h1 h2 => ?_) (fun g s h1 h2 h3 => ?_) ?_, eo⟩
  · unfold tsM
    split
    · unfold tmM
      rw [q_upN (by omega), q_upN (by omega), q_upN (by omega), q_upN (by omega)]
    · rw [q_upN (by omega)]
  · exact tsY_at (by omega) (by omega) (by omega) (by omega)
  · unfold fgR
    dsimp only
    by_cases z : toY N b p w t = 0
    · have a : tsM X c 3 p w t = mv_up (tmM X c t (qf kd w)) (c + 1) (t * 5 + 2) (nI 0) := by
        unfold tsM
        rw [eo, if_pos z, show X (3 + 1) t = N 2 t from e4, ek, q_cl (by omega)]
      have a2 : tsY N b p w t = mv_up (tyM N b t (qf kd w)) 1 (b + 18 + t) (nI 0) := by
        unfold tsY
        rw [if_pos z, ek, q_cl (by omega)]
      have oc : ocF kd w (N 1 (b + (12 + t))) (N 0 9) = 0 := by
        unfold toY at z
        split at z
        · rw [ek, q_cl (by omega), Nat.add_assoc] at z; exact z
        · exact absurd z (by decide)
      have tw := tw_turn hk hw f.2.2.1.2 l40 oc
      rw [a, a2]
      unfold tmM tyM
      simp (disch := omega) only [Nat.add_assoc, q_upS, q_upN]
      rw [f.2.1.1, f.2.2.1.1]
      exact ⟨f.1, ⟨rfl, pk_andE _ (m := nI 3) 2 (by decide)⟩, ⟨rfl, tw⟩, ⟨by first | trivial | rfl, 0, by decide, rfl⟩, by first | exact Iff.rfl | trivial⟩
    · have a : tsM X c 3 p w t = mv_up X (c + 1) (t * 5 + 2) (if nI 99 < X (c + 1) (t * 5 + 2) + nI 1 then nI 99 else X (c + 1) (t * 5 + 2) + nI 1) := by
        unfold tsM
        rw [eo, if_neg z]
      have a2 : tsY N b p w t = mv_up N 1 (b + 18 + t) (if N 1 (b + 18 + t) = nI 99 then nI 99 else N 1 (b + 18 + t) + nI 1) := by
        unfold tsY
        rw [if_neg z]
      rw [a, a2]
      simp (disch := omega) only [Nat.add_assoc, q_upS, q_upN]
      obtain ⟨e, q, hq, e2⟩ := f.2.2.2.1
      refine ⟨f.1, f.2.1, f.2.2.1, ?_, f.2.2.2.2⟩
      rw [e, e2]
      by_cases y : q = 99
      · subst y
        exact ⟨by decide, 99, by decide, by decide⟩
      · have y1 : ¬ nI 99 < nI q + nI 1 := by
          rw [q_add]
          intro u
          rw [q_ltf (by omega) (by omega)] at u
          exact u
        have y2 : ¬ nI q = nI 99 := fun u => y (nI_inj u (by omega) (by decide))
        rw [if_neg y1, if_neg y2, q_add]
        exact ⟨rfl, q + 1, by omega, rfl⟩
theorem tr_fig {n : Nat} {X N : mv_Mem} {c b p w : Nat} (hc : 9 < c) (hn : n ≤ 6) (hw : w < 2) (l40 : ∃ l, l ≤ 40 ∧ N 0 9 = nI l) (k4 : ∀ t, t < n → (∃ k, k < 4 ∧ N 2 t = nI k) ∧ X 4 t = N 2 t) (e8 : X 8 p = N 5 p) (e3 : X 3 3 = N 0 9) (h : figR n (X (c + 1)) (fun j => N 1 (b + j))) :
    ∀ m, m ≤ n → figR n (trM X c 3 p w m (c + 1)) (fun j => trY N b p w m 1 (b + j)) ∧ tjF X c 3 p w m = tjY N b p w m
  | 0, _ => ⟨h, rfl⟩
  | m + 1, hm => by
    obtain ⟨i1, i2⟩ := tr_fig hc hn hw l40 k4 e8 e3 h m (by omega)
    have o4 : trM X c 3 p w m 4 = X 4 := trM_out (by omega) m
    have o8 : trM X c 3 p w m 8 = X 8 := trM_out (by omega) m
    have o3 : trM X c 3 p w m 3 = X 3 := trM_out (by omega) m
    have p2 : trY N b p w m 2 = N 2 := trY_out (by decide) m
    have p5 : trY N b p w m 5 = N 5 := trY_out (by decide) m
    have p0 : trY N b p w m 0 = N 0 := trY_out (by decide) m
    have s := ts_fig (X := trM X c 3 p w m) (N := trY N b p w m) (c := c) (b := b) (p := p) (w := w) (t := m) (n := n) (by omega) hn hw (by rw [p2]; exact (k4 m (by omega)).1) (by rw [p0]; exact l40) (by rw [o4, p2]; exact (k4 m (by omega)).2) (by rw [o8, p5]; exact e8) (by rw [o3, p0]; exact e3) i1
    refine ⟨s.1, ?_⟩
    unfold tjF tjY
    rw [i2, s.2]
section
variable {k : Nat} {X N : mv_Mem}
theorem RR.k4 (h : RR k X N) : ∀ t, t < nX X → (∃ k, k < 4 ∧ N 2 t = nI k) ∧ X 4 t = N 2 t := fun t ht =>
  ⟨h.gm.2.2.2.2.1 t (by rw [h.n6.2.2.2]; exact ht), h.lo.2.2.2.2.2.2.2.2.1 t ht⟩
theorem RR.l40 (h : RR k X N) : ∃ l, l ≤ 40 ∧ N 0 9 = nI l := h.gm.2.2.1
theorem RR.e33 (h : RR k X N) : X 3 3 = N 0 9 := h.lo.2.2.2.2.2.1
end
