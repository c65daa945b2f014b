/-! text and seen figures -/
def ksX (X X' : mv_Mem) : Prop := (∀ b, (3 ≤ b ∧ b < 10) ∨ (18 ≤ b ∧ b < 21) ∨ (25 ≤ b ∧ b < 56) → X' b = X b) ∧ ∀ j, j = 6 ∨ j = 7 ∨ j = 9 → X' 0 j = X 0 j
def ksN (N N' : mv_Mem) : Prop := (∀ b, b = 2 ∨ b = 3 ∨ b = 5 ∨ b = 6 → N' b = N b) ∧ (∀ j, j = 1 ∨ j = 2 ∨ j = 3 ∨ j = 7 ∨ j = 9 ∨ j = 10 → N' 0 j = N 0 j) ∧ ∀ j, j < 8789 → N' 1 j = N 1 j
theorem RR_rest {k k' : Nat} {X N X' N' : mv_Mem} (h : RR k X N) (hX : ksX X X') (hN : ksN N N') (se : RR_se X' N') (st : RR_st X' N') (tx : RR_tx X' N') (gl : RR_gl X' N') (ty : RR_ty X' N') (le : RR_le X' N') (ln : RR_ln k' X' N') : RR k' X' N' := by
  obtain ⟨hX, h0⟩ := hX
  obtain ⟨hN, f0, f1⟩ := hN
  have n6 := h.n6.1
  have enX : nX X' = nX X := by unfold nX; rw [hX 3 (by omega)]
  refine ⟨lo_of h.lo (fun b h1 h2 => hX b (by omega)) (fun b hb => hN b (by omega)) (fun j hj => f0 j (by omega)), ?_, ?_, ?_, ?_, se, st, tx, gl, ty, le, ln⟩
  · unfold RR_cl
    rw [enX]
    refine cR_of h.cl n6 ?_ (fun j _ => ?_) (fun j _ => ?_) (fun j hj => f1 _ (by omega))
    · rw [hX _ (by omega)]
    · rw [hX _ (by omega)]
    · rw [hX _ (by omega)]
  · obtain ⟨e, n, he, hn, a, b, c, d⟩ := h.un
    refine ⟨e, n, he, hn, by rw [h0 6 (by omega)]; exact a, (h0 7 (by omega)).trans b, (f0 1 (by omega)).trans c, fun i hi => ?_⟩
    have hm : (e + 8 - n + i) % 8 < 8 := Nat.mod_lt _ (by decide)
    rw [enX]
    refine cR_of (d i hi) n6 ?_ (fun j _ => ?_) (fun j _ => ?_) (fun j hj => f1 _ (by omega))
    · rw [hX _ (by omega)]
    · rw [hX _ (by omega)]
    · rw [hX _ (by omega)]
  · intro i hi
    rw [hX _ (by omega)]
    exact h.ri i hi
  · obtain ⟨n, hn, a, b, d⟩ := h.ke
    refine ⟨n, hn, (h0 9 (by omega)).trans a, (f0 2 (by omega)).trans b, fun i hi => ?_⟩
    rw [enX]
    refine cR_of (d i hi) n6 ?_ (fun j _ => ?_) (fun j _ => ?_) (fun j hj => f1 _ (by omega))
    · rw [hX _ (by omega)]
    · rw [hX _ (by omega)]
    · rw [hX _ (by omega)]
theorem tw_forget : twn 105 190 [.ref 0] := by
  apply twn_of
  intro k sx sn X N hk ox om hR
  obtain ⟨n, hn, s1, s2, -⟩ := hR.se
  refine ⟨X 0 11, mv_up X 0 11 (nI 0), mv_up N 0 14 (nI 0), fun Q hQ => ?_, fun Q hQ => ?_, ?_⟩
  · rw [eS105]
    exact ⟨rfl, ox, hQ⟩
  · rw [eS190]
    exact ⟨rfl, om, Qe hQ (s2.trans s1.symm) rfl⟩
  · refine RR_rest hR ⟨fun b hb => q_upO (by omega), fun j hj => q_upN (by omega)⟩ ⟨fun b hb => q_upO (by omega), fun j hj => q_upN (by omega), fun j hj => by rw [q_upO (by decide)]⟩ ⟨0, by decide, q_upS, q_upS, fun i hi => absurd hi (by omega)⟩ ?_ ?_ ?_ ?_ ?_ ?_
    · intro i hi
      rw [q_upO (by decide)]
      exact hR.st i hi
    · exact tX_ofe hR.tx (q_upO (by decide)) (q_upO (by decide))
    · exact gL_ofe hR.gl (fun b h1 h2 => q_upO (by omega))
    · exact tY_ofe hR.ty (q_upN (by decide)) (q_upO (by decide))
    · unfold RR_le
      rw [lx_ofe (q_upO (by decide)) (q_upO (by decide)), ly_ofe (q_upN (by decide)) (q_upO (by decide))]
      exact hR.le
    · obtain ⟨n, hn, a, b⟩ := hR.ln
      exact ⟨n, by omega, by rw [q_upO (by decide)]; exact a, by rw [q_upN (by decide)]; exact b⟩
theorem ten_n {n : Nat} (h : n ≤ 6) : 10 ^ n ≤ 1000000 := Nat.pow_le_pow_right (n := 10) (by decide) h
theorem tw_see (x : Int32) : twn 124 204 [.ref 0, .int x] := by
  apply twn_of
  intro k sx sn X N hk ox om hR
  obtain ⟨n, hn, s1, s2, s3⟩ := hR.se
  have n6 := hR.n6
  have t10 := ten_n n6.1
  by_cases c1 : x < nI 0
  · refine ⟨Int32.ofInt (-1), X, N, fun Q hQ => ?_, fun Q hQ => ?_, hR.up⟩
    · rw [eS124]; exact ⟨x, rfl, ⟨ox, hR.x30, n, hn, s1⟩, Qe hQ (if_pos c1) (if_pos c1)⟩
    · rw [eS204]; exact ⟨x, rfl, ⟨om, hR.y3, n, hn, s2⟩, Qe hQ (if_pos c1) (if_pos c1)⟩
  by_cases c2 : nI (10 ^ nX X) ≤ x
  · refine ⟨Int32.ofInt (-1), X, N, fun Q hQ => ?_, fun Q hQ => ?_, hR.up⟩
    · rw [eS124]; exact ⟨x, rfl, ⟨ox, hR.x30, n, hn, s1⟩, Qe hQ ((if_neg c1).trans (if_pos c2)) ((if_neg c1).trans (if_pos c2))⟩
    · rw [eS204]; refine ⟨x, rfl, ⟨om, hR.y3, n, hn, s2⟩, ?_⟩; rw [n6.2.2.2]; exact Qe hQ ((if_neg c1).trans (if_pos c2)) ((if_neg c1).trans (if_pos c2))
  by_cases c3 : n = 6
  · have d1 : X 0 11 = nI 6 := by rw [s1, c3]
    have d2 : N 0 14 = nI 6 := by rw [s2, c3]
    refine ⟨Int32.ofInt (-3), X, N, fun Q hQ => ?_, fun Q hQ => ?_, hR.up⟩
    · rw [eS124]; exact ⟨x, rfl, ⟨ox, hR.x30, n, hn, s1⟩, Qe hQ ((if_neg c1).trans ((if_neg c2).trans (if_pos d1))) ((if_neg c1).trans ((if_neg c2).trans (if_pos d1)))⟩
    · rw [eS204]; refine ⟨x, rfl, ⟨om, hR.y3, n, hn, s2⟩, ?_⟩; rw [n6.2.2.2]; exact Qe hQ ((if_neg c1).trans ((if_neg c2).trans (if_pos d2))) ((if_neg c1).trans ((if_neg c2).trans (if_pos d2)))
  have d1 : ¬ X 0 11 = nI 6 := fun z => c3 (nI_inj (s1.symm.trans z) (by omega) (by omega))
  have d2 : ¬ N 0 14 = nI 6 := fun z => c3 (nI_inj (s2.symm.trans z) (by omega) (by omega))
  obtain ⟨v, hv, rfl, -⟩ := pk_mu c1 c2 (by omega)
  have a1 : (X 0 11).toNatClampNeg = n := by rw [s1, q_cl (by omega)]
  have a2 : (N 0 14).toNatClampNeg = n := by rw [s2, q_cl (by omega)]
  refine ⟨nI (n + 1), mv_up (mv_up X 56 n (nI v)) 0 11 (nI (n + 1)), mv_up (mv_up N 8 n (nI v)) 0 14 (nI (n + 1)), fun Q hQ => ?_, fun Q hQ => ?_, ?_⟩
  · rw [eS124]
    refine ⟨nI v, rfl, ⟨ox, hR.x30, n, hn, s1⟩, ?_⟩
    rw [a1]
    exact Qe hQ ((if_neg c1).trans ((if_neg c2).trans (if_neg d1))) ((if_neg c1).trans ((if_neg c2).trans (if_neg d1)))
  · rw [eS204]
    refine ⟨nI v, rfl, ⟨om, hR.y3, n, hn, s2⟩, ?_⟩
    rw [n6.2.2.2, a2]
    exact Qe hQ ((if_neg c1).trans ((if_neg c2).trans (if_neg d2))) ((if_neg c1).trans ((if_neg c2).trans (if_neg d2)))
  · refine RR_rest hR ⟨fun b hb => by rw [q_upO (by omega), q_upO (by omega)], fun j hj => by rw [q_upN (by omega), q_upO (by decide)]⟩ ⟨fun b hb => by rw [q_upO (by omega), q_upO (by omega)], fun j hj => by rw [q_upN (by omega), q_upO (by decide)], fun j hj => by rw [q_upO (by decide), q_upO (by decide)]⟩ ⟨n + 1, by omega, q_upS, q_upS, fun i hi => ?_⟩ ?_ ?_ ?_ ?_ ?_ ?_
    · rw [q_upO (show ¬ (56 : Nat) = 0 by decide), q_upO (show ¬ (8 : Nat) = 0 by decide)]
      by_cases z : i = n
      · subst z; exact ⟨v, by omega, q_upS, q_upS⟩
      · rw [q_upN (by omega), q_upN (by omega)]; exact s3 i (by omega)
    · intro i hi
      rw [q_upO (by decide), q_upO (by decide)]
      exact hR.st i hi
    · exact tX_ofe hR.tx (by rw [q_upO (by decide), q_upO (by decide)]) (by rw [q_upO (by decide), q_upO (by decide)])
    · exact gL_ofe hR.gl (fun b h1 h2 => by rw [q_upO (by omega), q_upO (by omega)])
    · exact tY_ofe hR.ty (by rw [q_upN (by decide), q_upO (by decide)]) (by rw [q_upO (by decide), q_upO (by decide)])
    · unfold RR_le
      rw [lx_ofe (M := X) (by rw [q_upO (by decide), q_upO (by decide)]) (by rw [q_upO (by decide), q_upO (by decide)]), ly_ofe (M := N) (by rw [q_upN (by decide), q_upO (by decide)]) (by rw [q_upO (by decide), q_upO (by decide)])]
      exact hR.le
    · obtain ⟨n, hn, a, b⟩ := hR.ln
      exact ⟨n, by omega, by rw [q_upO (by decide), q_upO (by decide)]; exact a, by rw [q_upN (by decide), q_upO (by decide)]; exact b⟩
theorem lxe {k : Nat} {X N : mv_Mem} (h : RR k X N) {n p : Nat} (h1 : X 1 3 = nI n) (h2 : N 0 13 = nI n) (hn : n < 2147483648) (hp : p < n) : (X 61 p).toNatClampNeg = (N 7 p).toNatClampNeg := by
  have e := congrFun h.le p
  unfold lx ly at e
  rw [h1, h2, q_cl hn, if_pos hp, if_pos hp] at e
  exact e
theorem tw_write (x : Int32) : twn 142 215 [.ref 0, .int x] := by
  apply twn_of
  intro k sx sn X N hk ox om hR
  obtain ⟨n, hn, l1, l2⟩ := hR.ln
  have a1 : (X 1 3).toNatClampNeg = n := by rw [l1, q_cl (by omega)]
  have a2 : (N 0 13).toNatClampNeg = n := by rw [l2, q_cl (by omega)]
  have px : ∃ c, c < 96 ∧ X 1 3 = nI c := ⟨n, by omega, l1⟩
  have pn : ∃ c, c < 200 ∧ N 0 13 = nI c := ⟨n, by omega, l2⟩
  by_cases c1 : x < nI 32
  · refine ⟨Int32.ofInt (-1), X, N, fun Q hQ => ?_, fun Q hQ => ?_, hR.up⟩
    · rw [eS142]; exact ⟨x, rfl, ⟨ox, hR.tx, px⟩, Qe hQ (if_pos c1) (if_pos c1)⟩
    · rw [eS215]; exact ⟨x, rfl, ⟨om, pn⟩, Qe hQ (if_pos c1) (if_pos c1)⟩
  by_cases c2 : nI 126 < x
  · refine ⟨Int32.ofInt (-1), X, N, fun Q hQ => ?_, fun Q hQ => ?_, hR.up⟩
    · rw [eS142]; exact ⟨x, rfl, ⟨ox, hR.tx, px⟩, Qe hQ ((if_neg c1).trans (if_pos c2)) ((if_neg c1).trans (if_pos c2))⟩
    · rw [eS215]; exact ⟨x, rfl, ⟨om, pn⟩, Qe hQ ((if_neg c1).trans (if_pos c2)) ((if_neg c1).trans (if_pos c2))⟩
  have hv : ∃ v, v < 127 ∧ 31 < v ∧ x = nI v := by
    have g0 : ¬ x < 0 := fun z => c1 (Int32.lt_trans z (by decide))
    obtain ⟨v, hv, rfl⟩ := nI_of g0
    refine ⟨v, ?_, ?_, rfl⟩
    · by_cases z : v < 127
      · exact z
      · exact absurd (by rw [q_ltt (show 126 < v by omega) (by omega)]; trivial) c2
    · by_cases z : 31 < v
      · exact z
      · exact absurd (by rw [q_ltt (show v < 32 by omega) (by decide)]; trivial) c1
  obtain ⟨v, v1, v2, rfl⟩ := hv
  refine ⟨nI (n + 1), mv_up (mv_up X 1 3 (nI (n + 1))) 61 n (nI v), mv_up (mv_up N 7 n (nI v)) 0 13 (nI (n + 1)), fun Q hQ => ?_, fun Q hQ => ?_, ?_⟩
  · rw [eS142]
    refine ⟨nI v, rfl, ⟨ox, hR.tx, px⟩, ?_⟩
    rw [a1]
    refine Qe hQ ((if_neg c1).trans (if_neg c2)) ((if_neg c1).trans ((if_neg c2).trans ?_))
    unfold wrM
    rw [a1, q_cl (by omega)]
  · rw [eS215]
    refine ⟨nI v, rfl, ⟨om, pn⟩, ?_⟩
    rw [a2]
    exact Qe hQ ((if_neg c1).trans (if_neg c2)) ((if_neg c1).trans (if_neg c2))
  · have e61 : ∀ j, (mv_up (mv_up X 1 3 (nI (n + 1))) 61 n (nI v)) 61 j = if j = n then nI v else X 61 j := fun j => by
      by_cases z : j = n
      · subst z; rw [if_pos rfl, q_upS]
      · rw [if_neg z, q_upN (by omega), q_upO (by decide)]
    have e13 : (mv_up (mv_up X 1 3 (nI (n + 1))) 61 n (nI v)) 1 3 = nI (n + 1) := by rw [q_upO (by decide), q_upS]
    have e7 : ∀ j, (mv_up (mv_up N 7 n (nI v)) 0 13 (nI (n + 1))) 7 j = if j = n then nI v else N 7 j := fun j => by
      rw [q_upO (by decide)]
      by_cases z : j = n
      · subst z; rw [if_pos rfl, q_upS]
      · rw [if_neg z, q_upN (by omega)]
    refine RR_rest hR ⟨fun b hb => by rw [q_upO (by omega), q_upO (by omega)], fun j hj => by rw [q_upO (by decide), q_upO (by decide)]⟩ ⟨fun b hb => by rw [q_upO (by omega), q_upO (by omega)], fun j hj => by rw [q_upN (by omega), q_upO (by decide)], fun j hj => by rw [q_upO (by decide), q_upO (by decide)]⟩ ?_ ?_ ?_ ?_ ?_ ?_ ?_
    · obtain ⟨m, hm, s1, s2, s3⟩ := hR.se
      refine ⟨m, hm, by rw [q_upO (by decide), q_upO (by decide)]; exact s1, by rw [q_upN (by decide), q_upO (by decide)]; exact s2, fun i hi => ?_⟩
      rw [q_upO (by decide), q_upO (by decide), q_upO (by decide), q_upO (by decide)]
      exact s3 i hi
    · intro i hi
      rw [q_upO (by decide), q_upO (by decide)]
      exact hR.st i hi
    · obtain ⟨⟨m, hm, t1, t2⟩, t3, t4⟩ := hR.tx
      obtain rfl : m = n := nI_inj (t1.symm.trans l1) (by omega) (by omega)
      refine ⟨⟨m + 1, by omega, e13, fun j hj => ?_⟩, by rw [q_upO (by decide), q_upN (by decide)]; exact t3, fun j hj => ?_⟩
      · rw [e61]
        split
        · exact fun z => absurd (nI_inj z (by omega) (by decide)) (by omega)
        · exact t2 j (by omega)
      · rw [e61]
        split
        · exact ⟨v, by omega, rfl⟩
        · exact t4 j hj
    · exact gL_ofe hR.gl (fun b h1 h2 => by rw [q_upO (by omega), q_upO (by omega)])
    · obtain ⟨m, hm, t1, t2⟩ := hR.ty
      obtain rfl : m = n := nI_inj (t1.symm.trans l2) (by omega) (by omega)
      refine ⟨m + 1, by omega, q_upS, fun j hj => ?_⟩
      rw [e7]
      split
      · exact ⟨v, by omega, by omega, rfl⟩
      · exact t2 j (by omega)
    · unfold RR_le
      funext p
      unfold lx ly
      rw [e13, q_upS, q_cl (by omega), e61, e7]
      by_cases z : p < n + 1
      · rw [if_pos z, if_pos z]
        by_cases w : p = n
        · rw [if_pos w, if_pos w]
        · rw [if_neg w, if_neg w, lxe hR l1 l2 (by omega) (by omega)]
      · rw [if_neg z, if_neg z]
    · exact ⟨n + 1, by omega, e13, q_upS⟩
theorem tw_wipe : twn 138 214 [.ref 0] := by
  apply twn_of
  intro k sx sn X N hk ox om hR
  obtain ⟨n, hn, l1, l2⟩ := hR.ln
  have w13 : wpM X 1 3 = nI 0 := by unfold wpM; split <;> rw [q_upS]
  have w1 : wpM X 1 1 = X 1 1 := by
    unfold wpM
    split
    · rw [q_upN (by decide), q_upN (by decide)]
    · rw [q_upN (by decide)]
  have wo : ∀ b, ¬ b = 1 → wpM X b = X b := fun b hb => by
    unfold wpM
    split
    · rw [q_upO hb, q_upO hb]
    · rw [q_upO hb]
  refine ⟨nI n, wpM X, mv_up N 0 13 (nI 0), fun Q hQ => ?_, fun Q hQ => ?_, ?_⟩
  · rw [eS138]
    exact ⟨rfl, ⟨ox, hR.tx⟩, Qe hQ l1 rfl⟩
  · rw [eS214]
    exact ⟨rfl, om, Qe hQ l2 rfl⟩
  · refine RR_rest hR ⟨fun b hb => wo b (by omega), fun j hj => by rw [wo 0 (by decide)]⟩ ⟨fun b hb => q_upO (by omega), fun j hj => q_upN (by omega), fun j hj => by rw [q_upO (by decide)]⟩ ?_ ?_ ?_ ?_ ?_ ?_ ?_
    · obtain ⟨m, hm, s1, s2, s3⟩ := hR.se
      refine ⟨m, hm, by rw [wo 0 (by decide)]; exact s1, by rw [q_upN (by decide)]; exact s2, fun i hi => ?_⟩
      rw [wo 56 (by decide), q_upO (by decide)]
      exact s3 i hi
    · intro i hi
      rw [wo _ (by decide)]
      exact hR.st i hi
    · obtain ⟨-, t3, t4⟩ := hR.tx
      exact ⟨⟨0, by decide, w13, fun j hj => absurd hj (by omega)⟩, w1.trans t3, fun j hj => by rw [wo 61 (by decide)]; exact t4 j hj⟩
    · exact gL_ofe hR.gl (fun b h1 h2 => wo b (by omega))
    · exact ⟨0, by decide, q_upS, fun j hj => absurd hj (by omega)⟩
    · unfold RR_le
      funext p
      unfold lx ly
      rw [w13, q_upS, q_cl (by decide), if_neg (by omega), if_neg (by omega)]
    · exact ⟨0, by omega, w13, q_upS⟩
