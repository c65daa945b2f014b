/-! turn, twist -/
theorem tm_fig {n : Nat} {X N : mv_Mem} {t kd w : Nat} {lim : Int32} (ht : t < n) (hn : n ≤ 6) (hk : kd < 4) (hw : w < 2) (l40 : ∃ l, l ≤ 40 ∧ lim = nI l) (oc : ocF kd w (N 1 (0 + 12 + t)) lim = 0) (h : figR n (X 19) (fun j => N 1 (0 + j))) :
    figR n (tmM X 18 t (qf kd w) 19) (fun j => tyM N 0 t (qf kd w) 1 (0 + j)) := by
  have f := h.1 t ht
  unfold fgR at f
  dsimp only at f
  refine fig_set h hn ht (fun j h1 h2 => ?_) (fun g s h1 h2 h3 => ?_) ?_
  · unfold tmM
    rw [q_upN (by omega), q_upN (by omega), q_upN (by omega)]
  · unfold tyM
    rw [q_upN (by omega), q_upN (by omega), q_upN (by omega)]
  · unfold fgR
    dsimp only
    rw [Nat.add_assoc] at oc
    have tw := tw_turn hk hw f.2.2.1.2 l40 oc
    unfold tmM tyM
    simp only [Nat.zero_add] at f tw ⊢
    simp (disch := omega) only [Nat.reduceAdd, q_upS, q_upN]
    rw [f.2.1.1, f.2.2.1.1]
    exact ⟨f.1, ⟨rfl, pk_andE _ (m := nI 3) 2 (by decide)⟩, ⟨rfl, tw⟩, f.2.2.2.1, by first | exact Iff.rfl | trivial⟩
theorem tw_turn_ (x y : Int32) : twn 129 208 [.ref 0, .int x, .int y] := by
  apply twn_of
  intro k sx sn X N hk ox om hR
  have n6 := hR.n6
  have e3 := hR.lo.2.2.1
  have px : oX sx ∧ gL X 3 ∧ (∃ e, e < 8 ∧ X 0 6 &&& nI 7 = nI e) ∧ (∃ n, n < 9 ∧ X 0 7 = nI n) ∧ (∃ r, r < 25 ∧ X 18 2 = nI r) := ⟨ox, hR.lo.1, hR.e8, hR.n9, hR.r25⟩
  have pn : oM sn ∧ gM N ∧ cY N 0 ∧ (∃ n, n < 9 ∧ N 0 1 = nI n) := ⟨om, hR.gm, hR.cy, hR.u9⟩
  by_cases c1 : x < nI 0
  · refine ⟨Int32.ofInt (-1), X, N, fun Q hQ => ?_, fun Q hQ => ?_, hR.up⟩
    · rw [eS129]; exact ⟨x, y, rfl, px, Qe hQ (if_pos c1) (if_pos c1)⟩
    · rw [eS208]; exact ⟨x, y, rfl, pn, Qe hQ (if_pos c1) (if_pos c1)⟩
  by_cases c2 : X 3 0 ≤ x
  · have d2 : N 0 3 ≤ x := by rw [← e3]; exact c2
    refine ⟨Int32.ofInt (-1), X, N, fun Q hQ => ?_, fun Q hQ => ?_, hR.up⟩
    · rw [eS129]; exact ⟨x, y, rfl, px, Qe hQ ((if_neg c1).trans (if_pos c2)) ((if_neg c1).trans (if_pos c2))⟩
    · rw [eS208]; exact ⟨x, y, rfl, pn, Qe hQ ((if_neg c1).trans (if_pos d2)) ((if_neg c1).trans (if_pos d2))⟩
  have d2 : ¬ N 0 3 ≤ x := by rw [← e3]; exact c2
  by_cases c3 : ¬ y = nI 0 ∧ ¬ y = nI 1
  · refine ⟨Int32.ofInt (-1), X, N, fun Q hQ => ?_, fun Q hQ => ?_, hR.up⟩
    · rw [eS129]; exact ⟨x, y, rfl, px, Qe hQ ((if_neg c1).trans ((if_neg c2).trans (if_pos c3))) ((if_neg c1).trans ((if_neg c2).trans (if_pos c3)))⟩
    · rw [eS208]; exact ⟨x, y, rfl, pn, Qe hQ ((if_neg c1).trans ((if_neg d2).trans (if_pos c3))) ((if_neg c1).trans ((if_neg d2).trans (if_pos c3)))⟩
  have c4 := c2
  rw [n6.2.1] at c4
  obtain ⟨t, ht, rfl, -, et, -⟩ := pk_mu c1 c4 (by omega)
  obtain ⟨w, hw, rfl⟩ := way01 c3
  have ew : (nI w).toNatClampNeg = w := q_cl (by omega)
  obtain ⟨kd, hkd, ekd⟩ := (hR.k4 t ht).1
  have e4 := (hR.k4 t ht).2
  have f := hR.f ht
  have q1 : ocF (X 4 t).toNatClampNeg w (X 19 (t * 5 + 1)) (X 3 3) = ocF kd w (N 1 (0 + 12 + t)) (N 0 9) := by
    rw [e4, ekd, q_cl (by omega), hR.e33, f.2.2.1.1]
  have q2 : ocF (N 2 t).toNatClampNeg w (N 1 (0 + 12 + t)) (N 0 9) = ocF kd w (N 1 (0 + 12 + t)) (N 0 9) := by
    rw [ekd, q_cl (by omega)]
  have eX : trX X t w = if ocF kd w (N 1 (0 + 12 + t)) (N 0 9) = 2 then X else if ocF kd w (N 1 (0 + 12 + t)) (N 0 9) = 0 then tmM (rmM X) 18 t (qf kd w) else rmM X := by
    unfold trX
    rw [q1, e4, ekd, q_cl (by omega)]
  have eZ : trZ N t w = if ocF kd w (N 1 (0 + 12 + t)) (N 0 9) = 2 then N else if ocF kd w (N 1 (0 + 12 + t)) (N 0 9) = 0 then tyM (kpM N) 0 t (qf kd w) else kpM N := by
    unfold trZ
    rw [q2, ekd, q_cl (by omega)]
  have h := RR_rm hR
  have nr := hR.rm_nX
  have key : RR k (trX X t w) (trZ N t w) := by
    rw [eX, eZ]
    split
    · exact hR
    · split
      · rename_i z
        have ky : kpM N 1 (0 + 12 + t) = N 1 (0 + 12 + t) := kpM_lo (by have := n6.1; omega)
        have fg := tm_fig (X := rmM X) (N := kpM N) (n := nX (rmM X)) (t := t) (kd := kd) (w := w) (lim := N 0 9) (by rw [nr]; exact ht) h.n6.1 hkd hw hR.l40 (by rw [ky]; exact z) h.cl.1
        have o1 : ∀ q, ¬ q = 19 → tmM (rmM X) 18 t (qf kd w) q = rmM X q := fun q hq => by unfold tmM; rw [q_upO hq, q_upO hq, q_upO hq]
        have o2 : ∀ q, ¬ q = 1 → tyM (kpM N) 0 t (qf kd w) q = kpM N q := fun q hq => by unfold tyM; rw [q_upO hq, q_upO hq, q_upO hq]
        have o3 : ∀ j, 30 ≤ j → tyM (kpM N) 0 t (qf kd w) 1 j = kpM N 1 j := fun j hj => by
          have := n6.1
          unfold tyM
          rw [q_upN (by omega), q_upN (by omega), q_upN (by omega)]
        exact RR_cloth h ⟨fun q hq => o1 q (by omega), fun j hj => by rw [o1 0 (by decide)]⟩ ⟨fun q hq => o2 q (by omega), fun j hj => by rw [o2 0 (by decide)], fun j h1 h2 => o3 j (by omega)⟩ (fun i hi => by rw [o1 _ (by decide)]; exact h.st i hi) (cR_fig h.cl fg h.n6.1 (by rw [o1 18 (by decide)]) (fun j => by rw [o1 (18 + 2) (by decide)]) (fun j h1 h2 => o3 _ (by omega)))
      · exact h
  have nk : nX (trX X t w) = nX X := by
    rw [eX]
    split
    · rfl
    · split
      · unfold nX tmM
        rw [q_upO (by decide), q_upO (by decide), q_upO (by decide), rmM_out (by decide) (by decide)]
      · exact nr
  have fk := key.f (t := t) (by rw [nk]; exact ht)
  by_cases z : ocF kd w (N 1 (0 + 12 + t)) (N 0 9) = 2
  · have z1 : ocF (X 4 t).toNatClampNeg w (X 19 (t * 5 + 1)) (X 3 3) = 2 := q1.trans z
    have z2 : ocF (N 2 t).toNatClampNeg w (N 1 (0 + 12 + t)) (N 0 9) = 2 := q2.trans z
    refine ⟨Int32.ofInt (-2), trX X t w, trZ N t w, fun Q hQ => ?_, fun Q hQ => ?_, key.up⟩
    · rw [eS129]
      refine ⟨nI t, nI w, rfl, px, ?_⟩
      rw [et, ew]
      exact Qe hQ ((if_neg c1).trans ((if_neg c2).trans ((if_neg c3).trans (if_pos z1)))) ((if_neg c1).trans ((if_neg c2).trans (if_neg c3)))
    · rw [eS208]
      refine ⟨nI t, nI w, rfl, pn, ?_⟩
      rw [et, ew]
      exact Qe hQ ((if_neg c1).trans ((if_neg d2).trans ((if_neg c3).trans (if_pos z2)))) ((if_neg c1).trans ((if_neg d2).trans (if_neg c3)))
  · have z1 : ¬ ocF (X 4 t).toNatClampNeg w (X 19 (t * 5 + 1)) (X 3 3) = 2 := by rw [q1]; exact z
    have z2 : ¬ ocF (N 2 t).toNatClampNeg w (N 1 (0 + 12 + t)) (N 0 9) = 2 := by rw [q2]; exact z
    refine ⟨trX X t w 19 (t * 5 + 0), trX X t w, trZ N t w, fun Q hQ => ?_, fun Q hQ => ?_, key.up⟩
    · rw [eS129]
      refine ⟨nI t, nI w, rfl, px, ?_⟩
      rw [et, ew]
      exact Qe hQ ((if_neg c1).trans ((if_neg c2).trans ((if_neg c3).trans (if_neg z1)))) ((if_neg c1).trans ((if_neg c2).trans (if_neg c3)))
    · rw [eS208]
      refine ⟨nI t, nI w, rfl, pn, ?_⟩
      rw [et, ew]
      exact Qe hQ ((if_neg c1).trans ((if_neg d2).trans ((if_neg c3).trans ((if_neg z2).trans fk.2.1.1.symm)))) ((if_neg c1).trans ((if_neg d2).trans (if_neg c3)))
theorem tw_sum {k : Nat} {X N : mv_Mem} (h : RR k X N) {t : Nat} (ht : t < nX X) : ∀ j, j ≤ (X 3 2).toNatClampNeg → twF X t j = twY N t j
  | 0, _ => rfl
  | j + 1, hj => by
    obtain ⟨q, w, hq, hw, e1, e2⟩ := h.pk (i := j) (by omega)
    obtain ⟨p, hp6, -, -, ep⟩ := h.p31
    unfold twF twY
    rw [tw_sum h ht j (by omega), e1, e2, q_cl (by omega), show (10 * q + w) / 10 = q by omega, show (10 * q + w) % 10 = w by omega, show X (3 + 5) q = N 5 q from h.lo.2.2.2.2.2.2.2.2.2.2.1 q hq, show X (3 + 1) t = N 2 t from (h.k4 t ht).2]
theorem tw_twist (x : Int32) : twn 130 209 [.ref 0, .int x] := by
  apply twn_rd
  intro k sx sn X N hk ox om hR
  apply Exists.intro
  apply And.intro
  · intro Q hQ
    rw [eS130]
    exact ⟨x, rfl, ⟨ox, hR.lo.1⟩, hQ⟩
  · intro Q hQ
    rw [eS209]
    refine ⟨x, rfl, ⟨om, hR.gm⟩, Qe hQ ?_ rfl⟩
    rw [← hR.lo.2.2.1, ← hR.lo.2.2.2.2.1]
    by_cases c1 : x < nI 0
    · rw [if_pos c1, if_pos c1]
    by_cases c2 : X 3 0 ≤ x
    · rw [if_neg c1, if_neg c1, if_pos c2, if_pos c2]
    rw [if_neg c1, if_neg c1, if_neg c2, if_neg c2]
    rw [hR.n6.2.1] at c2
    have := hR.n6.1
    obtain ⟨t, ht, rfl, -, et, -⟩ := pk_mu c1 c2 (by omega)
    rw [et, tw_sum hR ht _ (Nat.le_refl _)]
