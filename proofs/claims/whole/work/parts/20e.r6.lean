/-! changes of the cloth: flip, comb, cut, turn -/
theorem fig_set {n t : Nat} {F G F' G' : Nat → Int32} (h : figR n F G) (hn : n ≤ 6) (ht : t < n) (e1 : ∀ j, j < 30 → ¬ j / 5 = t → F' j = F j) (e2 : ∀ g s, g < 5 → s < 6 → ¬ s = t → G' (6 * g + s) = G (6 * g + s)) (f : fgR F' G' t) : figR n F' G' := by
  refine ⟨fun s hs => ?_, fun s h1 h2 => by rw [e1 _ (by omega) (by omega)]; exact h.2 s h1 h2⟩
  by_cases c : s = t
  · subst c; exact f
  · have q := h.1 s hs
    unfold fgR at q ⊢
    have g0 := e2 0 s (by decide) (by omega) c
    have g1 := e2 1 s (by decide) (by omega) c
    have g2 := e2 2 s (by decide) (by omega) c
    have g3 := e2 3 s (by decide) (by omega) c
    have g4 := e2 4 s (by decide) (by omega) c
    rw [e1 _ (by omega) (by omega), e1 _ (by omega) (by omega), e1 _ (by omega) (by omega), e1 _ (by omega) (by omega), e1 _ (by omega) (by omega), show G' (0 + s) = G (0 + s) from g0, show G' (6 + s) = G (6 + s) from g1, show G' (12 + s) = G (12 + s) from g2, show G' (18 + s) = G (18 + s) from g3, show G' (24 + s) = G (24 + s) from g4]
    exact q
theorem cR_fig {n : Nat} {X N X' N' : mv_Mem} {c b : Nat} (h : cR n X N c b) (hf : figR n (X' (c + 1)) (fun j => N' 1 (b + j))) (hn : n ≤ 6) (e0 : X' c 2 = X c 2) (e2 : ∀ j, X' (c + 2) j = X (c + 2) j) (f : ∀ j, 30 ≤ j → j < 799 → N' 1 (b + j) = N 1 (b + j)) : cR n X' N' c b := by
  obtain ⟨-, r, hr, h1, h2, h3⟩ := h
  refine ⟨hf, r, hr, e0.trans h1, (f 30 (by omega) (by omega)).trans h2, fun i hi => ?_⟩
  obtain ⟨a1, a2, a3⟩ := h3 i hi
  refine ⟨?_, ?_, fig_of a3 hn (fun j hj => e2 _) (fun j hj => ?_)⟩
  · rw [e2 _, a1]; simp only [Nat.add_assoc]; exact (f _ (by omega) (by omega)).symm
  · rw [e2 _, a2]; simp only [Nat.add_assoc]; exact (f _ (by omega) (by omega)).symm
  · simp only [Nat.add_assoc]; exact f _ (by omega) (by omega)
section
variable {k : Nat} {X N : mv_Mem}
theorem RR.e8 (h : RR k X N) : ∃ e, e < 8 ∧ X 0 6 &&& nI 7 = nI e := by
  obtain ⟨e, n, he, hn, x6, x7, y1, un⟩ := h.un
  exact ⟨e, he, x6⟩
theorem RR.n9 (h : RR k X N) : ∃ n, n < 9 ∧ X 0 7 = nI n := by
  obtain ⟨e, n, he, hn, x6, x7, y1, un⟩ := h.un
  exact ⟨n, by omega, x7⟩
theorem RR.u9 (h : RR k X N) : ∃ n, n < 9 ∧ N 0 1 = nI n := by
  obtain ⟨e, n, he, hn, x6, x7, y1, un⟩ := h.un
  exact ⟨n, by omega, y1⟩
theorem RR.r25 (h : RR k X N) : ∃ r, r < 25 ∧ X 18 2 = nI r := by
  obtain ⟨r, a, b, c⟩ := h.ro
  exact ⟨r, a, b⟩
theorem RR.q25 (h : RR k X N) : ∃ r, r < 25 ∧ N 1 30 = nI r := by
  obtain ⟨r, a, b, c⟩ := h.ro
  exact ⟨r, a, c⟩
/-- one figure of the cloth set anew -/
theorem RR_fig1 (h : RR k X N) {t a g G : Nat} {v : Int32} (ha : a < 5) (hg : g < 5) (hG : G = 6 * g + t) (ht : t < nX X) (f : fgR ((mv_up X 19 (t * 5 + a) v) 19) (fun j => (mv_up N 1 G v) 1 (0 + j)) t) : RR k (mv_up X 19 (t * 5 + a) v) (mv_up N 1 G v) := by
  have n6 := h.n6.1
  refine RR_cloth h ⟨fun b hb => q_upO (by omega), fun j hj => by rw [q_upO (by decide)]⟩ ⟨fun b hb => q_upO (by omega), fun j hj => by rw [q_upO (by decide)], fun j h1 h2 => q_upN (by omega)⟩ (fun i hi => by rw [q_upO (by decide)]; exact h.st i hi) ?_
  refine cR_fig h.cl (fig_set h.cl.1 n6 ht (fun j h1 h2 => q_upN (by omega)) (fun g' s h1 h2 h3 => ?_) f) n6 (by rw [q_upO (by decide)]) (fun j => by rw [q_upO (by decide)]) (fun j h1 h2 => q_upN (by omega))
  exact q_upN (by omega)
end
theorem one_m {s : Nat} (h : s < 2) : ∃ q, q < 2 ∧ nI 1 - nI s = nI q := by
  have : s = 0 ∨ s = 1 := by omega
  rcases this with rfl | rfl
  · exact ⟨1, by decide, by decide⟩
  · exact ⟨0, by decide, by decide⟩
theorem tw_flip (x : Int32) : twn 104 189 [.ref 0, .int x] := by
  apply twn_of
  intro k sx sn X N hk ox om hR
  have n6 := hR.n6
  have e3 := hR.lo.2.2.1
  by_cases c1 : x < nI 0
  · refine ⟨Int32.ofInt (-1), X, N, fun Q hQ => ?_, fun Q hQ => ?_, hR.up⟩
    · rw [eS104]; exact ⟨x, rfl, ⟨ox, hR.x30, hR.e8, hR.n9, hR.r25⟩, Qe hQ (if_pos c1) (if_pos c1)⟩
    · rw [eS189]; exact ⟨x, rfl, ⟨om, hR.y3, hR.u9⟩, Qe hQ (if_pos c1) (if_pos c1)⟩
  by_cases c2 : X 3 0 ≤ x
  · have d2 : N 0 3 ≤ x := by rw [← e3]; exact c2
    refine ⟨Int32.ofInt (-1), X, N, fun Q hQ => ?_, fun Q hQ => ?_, hR.up⟩
    · rw [eS104]; exact ⟨x, rfl, ⟨ox, hR.x30, hR.e8, hR.n9, hR.r25⟩, Qe hQ ((if_neg c1).trans (if_pos c2)) ((if_neg c1).trans (if_pos c2))⟩
    · rw [eS189]; exact ⟨x, rfl, ⟨om, hR.y3, hR.u9⟩, Qe hQ ((if_neg c1).trans (if_pos d2)) ((if_neg c1).trans (if_pos d2))⟩
  have d2 : ¬ N 0 3 ≤ x := by rw [← e3]; exact c2
  have c3 := c2
  rw [n6.2.1] at c3
  obtain ⟨t, ht, rfl, -, et, -⟩ := pk_mu c1 c3 (by omega)
  have f := hR.f ht
  have h1 := RR_rm hR
  have nr : nX (rmM X) = nX X := by unfold nX; rw [rmM_out (by decide) (by decide)]
  have f1 := h1.cl.1.1 t (by rw [nr]; exact ht)
  refine ⟨nI 1 - X 19 (t * 5 + 3), mv_up (rmM X) 19 (t * 5 + 3) (nI 1 - X 19 (t * 5 + 3)), mv_up (kpM N) 1 (0 + t) (nI 1 - X 19 (t * 5 + 3)), fun Q hQ => ?_, fun Q hQ => ?_, ?_⟩
  · rw [eS104]
    refine ⟨nI t, rfl, ⟨ox, hR.x30, hR.e8, hR.n9, hR.r25⟩, ?_⟩
    rw [et]
    exact Qe hQ ((if_neg c1).trans (if_neg c2)) ((if_neg c1).trans (if_neg c2))
  · rw [eS189]
    refine ⟨nI t, rfl, ⟨om, hR.y3, hR.u9⟩, ?_⟩
    rw [et, ← f.1.1]
    exact Qe hQ ((if_neg c1).trans (if_neg d2)) ((if_neg c1).trans (if_neg d2))
  · refine (RR_fig1 h1 (g := 0) (by decide) (by decide) (by omega) (by rw [nr]; exact ht) ?_).up
    have n66 := n6.1
    unfold fgR at f1 ⊢
    dsimp only at f1 ⊢
    simp (disch := omega) only [Nat.zero_add, Nat.reduceAdd, q_upS, q_upN] at f1 ⊢
    refine ⟨⟨trivial, ?_⟩, f1.2⟩
    obtain ⟨s, hs, e⟩ := f.1.2
    rw [f.1.1, e]
    exact one_m hs
theorem tw_comb (x : Int32) : twn 92 182 [.ref 0, .int x] := by
  apply twn_of
  intro k sx sn X N hk ox om hR
  have n6 := hR.n6
  have e3 := hR.lo.2.2.1
  by_cases c1 : x < nI 0
  · refine ⟨Int32.ofInt (-1), X, N, fun Q hQ => ?_, fun Q hQ => ?_, hR.up⟩
    · rw [eS92]; exact ⟨x, rfl, ⟨ox, hR.x30, hR.e8, hR.n9, hR.r25⟩, Qe hQ (if_pos c1) (if_pos c1)⟩
    · rw [eS182]; exact ⟨x, rfl, ⟨om, hR.y3, hR.u9⟩, Qe hQ (if_pos c1) (if_pos c1)⟩
  by_cases c2 : X 3 0 ≤ x
  · have d2 : N 0 3 ≤ x := by rw [← e3]; exact c2
    refine ⟨Int32.ofInt (-1), X, N, fun Q hQ => ?_, fun Q hQ => ?_, hR.up⟩
    · rw [eS92]; exact ⟨x, rfl, ⟨ox, hR.x30, hR.e8, hR.n9, hR.r25⟩, Qe hQ ((if_neg c1).trans (if_pos c2)) ((if_neg c1).trans (if_pos c2))⟩
    · rw [eS182]; exact ⟨x, rfl, ⟨om, hR.y3, hR.u9⟩, Qe hQ ((if_neg c1).trans (if_pos d2)) ((if_neg c1).trans (if_pos d2))⟩
  have d2 : ¬ N 0 3 ≤ x := by rw [← e3]; exact c2
  have c3 := c2
  rw [n6.2.1] at c3
  obtain ⟨t, ht, rfl, -, et, -⟩ := pk_mu c1 c3 (by omega)
  have f := hR.f ht
  have h1 := RR_rm hR
  have nr : nX (rmM X) = nX X := by unfold nX; rw [rmM_out (by decide) (by decide)]
  have f1 := h1.cl.1.1 t (by rw [nr]; exact ht)
  refine ⟨X 19 (t * 5 + 1) + nI 40, mv_up (rmM X) 19 (t * 5 + 1) (nI 0), mv_up (kpM N) 1 (12 + t) (nI 0), fun Q hQ => ?_, fun Q hQ => ?_, ?_⟩
  · rw [eS92]
    refine ⟨nI t, rfl, ⟨ox, hR.x30, hR.e8, hR.n9, hR.r25⟩, ?_⟩
    rw [et]
    exact Qe hQ ((if_neg c1).trans (if_neg c2)) ((if_neg c1).trans (if_neg c2))
  · rw [eS182]
    refine ⟨nI t, rfl, ⟨om, hR.y3, hR.u9⟩, ?_⟩
    rw [et, ← f.2.2.1.1]
    exact Qe hQ ((if_neg c1).trans (if_neg d2)) ((if_neg c1).trans (if_neg d2))
  · refine (RR_fig1 h1 (g := 2) (by decide) (by decide) (by omega) (by rw [nr]; exact ht) ?_).up
    have n66 := n6.1
    unfold fgR at f1 ⊢
    dsimp only at f1 ⊢
    simp (disch := omega) only [Nat.zero_add, Nat.reduceAdd, q_upS, q_upN] at f1 ⊢
    exact ⟨f1.1, f1.2.1, ⟨trivial, 40, by decide, by decide⟩, f1.2.2.2⟩
theorem tw_cut : twn 96 185 [.ref 0] := by
  apply twn_of
  intro k sx sn X N hk ox om hR
  obtain ⟨r, r1, r2, r3⟩ := hR.ro
  have h := RR_rm hR
  have n6 := h.n6.1
  refine ⟨nI r, mv_up (rmM X) 18 2 (nI 0), mv_up (kpM N) 1 30 (nI 0), fun Q hQ => ?_, fun Q hQ => ?_, ?_⟩
  · rw [eS96]
    exact ⟨rfl, ⟨ox, hR.e8, hR.n9, hR.r25⟩, Qe hQ r2 rfl⟩
  · rw [eS185]
    exact ⟨rfl, ⟨om, hR.u9⟩, Qe hQ r3 rfl⟩
  · refine (RR_cloth h ⟨fun b hb => q_upO (by omega), fun j hj => by rw [q_upO (by decide)]⟩ ⟨fun b hb => q_upO (by omega), fun j hj => by rw [q_upO (by decide)], fun j h1 h2 => q_upN (by omega)⟩ (fun i hi => by rw [q_upO (by decide)]; exact h.st i hi) ?_).up
    refine ⟨fig_of h.cl.1 n6 (fun j hj => ?_) (fun j hj => ?_), 0, by decide, q_upS, q_upS, fun i hi => absurd hi (by omega)⟩
    · exact congrFun (q_upO (by decide)) j
    · exact q_upN (by omega)
