/-! the model: the text read, laid -/
theorem rB_0 {X M : mv_Mem} : rB (rt0 X) (mv_up (mv_up (mv_up (mv_up (mv_up M 0 17 (nI 0)) 0 19 (nI 0)) 0 23 (nI 0)) 0 25 (nI 20)) 0 26 (nI 0)) := by
  unfold rt0 clM
  refine ⟨⟨0, by decide, ?_, ?_, fun t h => absurd h (by omega), fun t h h1 => absurd h1 (by omega)⟩, ⟨0, by decide, ?_, ?_, fun t h => absurd h (by omega), 0, by decide, ?_, ?_, fun t h => absurd h (by omega)⟩, 20, by decide, ?_, ?_⟩
  · rw [q_upN (by decide), q_upN (by decide), q_upN (by decide), q_upS]
  · rw [q_upN (by decide), q_upN (by decide), q_upN (by decide), q_upS]
  · rw [q_upN (by decide), q_upN (by decide), q_upS]
  · rw [q_upN (by decide), q_upN (by decide), q_upS]
  · rw [q_upN (by decide), q_upS]
  · rw [q_upS]
  · rw [q_upS]
  · rw [q_upN (by decide), q_upS]
theorem rX_0 {X M : mv_Mem} (h1 : tX X) (h2 : gL X 11) (tM : tY M) (hl : lx X = ly M) : rX (rt0 X) (mv_up (mv_up (mv_up (mv_up (mv_up M 0 17 (nI 0)) 0 19 (nI 0)) 0 23 (nI 0)) 0 25 (nI 20)) 0 26 (nI 0)) := by
  have r : rdE M (mv_up (mv_up (mv_up (mv_up (mv_up M 0 17 (nI 0)) 0 19 (nI 0)) 0 23 (nI 0)) 0 25 (nI 20)) 0 26 (nI 0)) := rdE_0 (rdE_0 (rdE_0 (rdE_0 (rdE_0 rdE_r (by decide)) (by decide)) (by decide)) (by decide)) (by decide)
  have i : iL (rt0 X) := by
    unfold rt0
    refine ⟨?_, ?_, gL_cl (gU10 h2)⟩
    · unfold clM
      exact tX_up (tX_up (tX_up (tX_up (tX_up h1 (by decide) (by decide)) (by decide) (by decide)) (by decide) (by decide)) (by decide) (by decide)) (by decide) (by decide)
    · unfold clM
      exact up_ex (by decide) (up_ex (by decide) (up_ex (by decide) (up_ex (by decide) (pl_ex (by decide)))))
  refine ⟨i, rdE_tY r tM, ?_, ⟨0, by decide, ?_, ?_⟩, rB_0⟩
  · rw [rdE_ly r, ← hl]
    unfold rt0 clM
    rw [lx_up (by decide) (by decide), lx_up (by decide) (by decide), lx_up (by decide) (by decide), lx_up (by decide) (by decide), lx_up (by decide) (by decide)]
  · unfold rt0 clM
    rw [q_upO (by decide), q_upO (by decide), q_upO (by decide), q_upO (by decide), q_upS]
  · rw [q_upN (by decide), q_upN (by decide), q_upN (by decide), q_upN (by decide), q_upS]
def sp153 : mv_Sp := fun As sh M Q => ∃ X, As = [.ref 0] ∧ oM sh ∧ tX X ∧ gL X 11 ∧ tY M ∧ lx X = ly M ∧
  ((tdM X).1 = Int32.ofInt (-4) → ∀ N, rdE M N → rB (tdM X).2 N → Q (some (.int (Int32.ofInt (-4)))) sh N) ∧ (¬ (tdM X).1 = Int32.ofInt (-4) → ∀ N, rdE M N → Q (some (.int (tdM X).1)) sh N)
theorem nI_m4 {p : Nat} (h : p < 2147483648) : ¬ nI p = Int32.ofInt (-4) := by
  intro z
  have := q_let (Nat.zero_le p) h
  rw [z] at this
  exact absurd this (by decide)
theorem lp153 {S : Nat → mv_Sp} (h152 : S 152 = sp152) {sh : mv_Shp} {M : mv_Mem} {P : mv_Post} {l : Nat} (p1 : oM sh) (hL : M 0 13 = nI l) (hl : l ≤ 200) :
    ∀ n (X N : mv_Mem) p z, rX X N → rdE M N → N 0 17 = nI p → p < 201 → l ≤ p + n →
      ((rtF n X).1 = Int32.ofInt (-4) → ∀ N, rdE M N → rB (rtF n X).2 N → P (some (.int (Int32.ofInt (-4)))) sh N) → (¬ (rtF n X).1 = Int32.ofInt (-4) → ∀ N, rdE M N → P (some (.int (rtF n X).1)) sh N) →
      mr153 S P 26 [some (.ref 0), z] [] sh N 0 0
  | 0, X, N, p, z, hR, rN, hp, hp2, hn, k1, k0 => by
    have hL' : N 0 13 = nI l := by rw [rN.2 13 (by decide) (by decide) (by decide) (by decide) (by decide) (by decide)]; exact hL
    rw [e153_26]
    simp (disch := first | assumption | omega) only [e153_0, e153_1, e153_2, e153_5, e153_6, e153_7, e153_10, e153_11, e153_12, e153_15, e153_16, e153_18, e153_21, e153_22, e153_23, e153_27, e153_30, e153_31, e153_34, e153_37, e153_38, e153_41, e153_42, e153_43, e153_46, e153_49, e153_50, e153_51, e153_54, e153_56, q_gv0, q_gvs, q_isI1, q_isA1, q_hs0, q_hsn, q_hsi, q_hsr, q_hss, q_inc1, List.set_cons_zero, List.set_cons_succ, ↓reduceIte, q_ss0, q_ssi, q_ssr, q_nr0, q_nr10, q_nr11, q_tlS, q_tlN, q_cl, q_let, q_lef, q_ltt, q_ltf, q_eqt, q_eqf, q_add, q_mul, Nat.reduceAdd, Nat.reduceLeDiff, Nat.reduceEqDiff, eq_self, Nat.zero_le, Nat.le_refl, not_false_eq_true, not_true_eq_false, true_and, and_true, and_self, if_true, if_false, p1.g17, p1.g13, hp, hL']
    exact k1 rfl N rN hR.2.2.2.2
  | n + 1, X, N, p, z, hR, rN, hp, hp2, hn, k1, k0 => by
    have hL' : N 0 13 = nI l := by rw [rN.2 13 (by decide) (by decide) (by decide) (by decide) (by decide) (by decide)]; exact hL
    obtain ⟨p', hp', hX, hN⟩ := hR.2.2.2.1
    obtain rfl : p' = p := nI_inj (hN.symm.trans hp) (by omega) (by omega)
    have hxl : (X 1 3).toNatClampNeg = l := by
      -- both texts end at the same place
      obtain ⟨m, hm, hM, -⟩ := hR.1.1.1
      rw [hM, q_cl (by omega)]
      have a1 := lx_iff hR.1.1
      have a2 := ly_iff hR.2.1
      rw [hR.2.2.1] at a1
      rw [hM, q_cl (by omega)] at a1
      rw [hL', q_cl (by omega)] at a2
      rcases Nat.lt_trichotomy m l with h | h | h
      · exact absurd ((a1 m).mp ((a2 m).mpr h)) (by omega)
      · exact h
      · exact absurd ((a2 l).mp ((a1 l).mpr h)) (by omega)
    unfold rtF at k1 k0
    rw [hX, hxl, q_cl (show p' < 2147483648 by omega)] at k1 k0
    rw [e153_26]
    by_cases c1 : p' < l
    · rw [if_pos c1] at k1 k0
      simp (disch := first | assumption | omega) only [e153_0, e153_1, e153_2, e153_5, e153_6, e153_7, e153_10, e153_11, e153_12, e153_15, e153_16, e153_18, e153_21, e153_22, e153_23, e153_27, e153_30, e153_31, e153_34, e153_37, e153_38, e153_41, e153_42, e153_43, e153_46, e153_49, e153_50, e153_51, e153_54, e153_56, q_gv0, q_gvs, q_isI1, q_isA1, q_hs0, q_hsn, q_hsi, q_hsr, q_hss, q_inc1, List.set_cons_zero, List.set_cons_succ, ↓reduceIte, q_ss0, q_ssi, q_ssr, q_nr0, q_nr10, q_nr11, q_tlS, q_tlN, q_cl, q_let, q_lef, q_ltt, q_ltf, q_eqt, q_eqf, q_add, q_mul, Nat.reduceAdd, Nat.reduceLeDiff, Nat.reduceEqDiff, eq_self, Nat.zero_le, Nat.le_refl, not_false_eq_true, not_true_eq_false, true_and, and_true, and_self, if_true, if_false, p1.o, p1.g17, p1.g13, hp, hL']
      refine kal_of ?_
      rw [h152]
      refine ⟨X, p', rfl, p1, hR, hp, hp2, fun e N' q rN' hR' hq hlt hq2 => ?_, fun e N' rN' => ?_⟩
      · rw [if_neg (by rw [e]; decide)] at k1 k0
        rw [q_tlS]
        simp (disch := first | assumption | omega) only [e153_46, e153_51, q_gv0, q_gvs, q_isI1, q_isA1, q_hs0, q_hsn, q_hsi, q_hsr, q_hss, q_inc1, List.set_cons_zero, List.set_cons_succ, ↓reduceIte, q_ss0, q_ssi, q_ssr, q_nr0, q_nr10, q_nr11, q_tlS, q_tlN, q_cl, q_let, q_lef, q_ltt, q_ltf, q_eqt, q_eqf, q_add, q_mul, Nat.reduceAdd, Nat.reduceLeDiff, Nat.reduceEqDiff, eq_self, Nat.zero_le, Nat.le_refl, not_false_eq_true, not_true_eq_false, true_and, and_true, and_self, if_true, if_false]
        exact lp153 h152 p1 hL hl n (m39 X) N' q _ hR' (rdE_t rN rN') hq hq2 (by omega) k1 k0
      · rw [if_pos e] at k1 k0
        rw [q_tlS]
        simp (disch := first | assumption | omega) only [e153_46, e153_49, e153_50, q_gv0, q_gvs, q_isI1, q_isA1, q_hs0, q_hsn, q_hsi, q_hsr, q_hss, q_inc1, List.set_cons_zero, List.set_cons_succ, ↓reduceIte, q_ss0, q_ssi, q_ssr, q_nr0, q_nr10, q_nr11, q_tlS, q_tlN, q_cl, q_let, q_lef, q_ltt, q_ltf, q_eqt, q_eqf, q_add, q_mul, Nat.reduceAdd, Nat.reduceLeDiff, Nat.reduceEqDiff, eq_self, Nat.zero_le, Nat.le_refl, not_false_eq_true, not_true_eq_false, true_and, and_true, and_self, if_true, if_false]
        exact k0 (nI_m4 (by omega)) _ (rdE_t rN rN')
    · rw [if_neg c1] at k1 k0
      simp (disch := first | assumption | omega) only [e153_0, e153_1, e153_2, e153_5, e153_6, e153_7, e153_10, e153_11, e153_12, e153_15, e153_16, e153_18, e153_21, e153_22, e153_23, e153_27, e153_30, e153_31, e153_34, e153_37, e153_38, e153_41, e153_42, e153_43, e153_46, e153_49, e153_50, e153_51, e153_54, e153_56, q_gv0, q_gvs, q_isI1, q_isA1, q_hs0, q_hsn, q_hsi, q_hsr, q_hss, q_inc1, List.set_cons_zero, List.set_cons_succ, ↓reduceIte, q_ss0, q_ssi, q_ssr, q_nr0, q_nr10, q_nr11, q_tlS, q_tlN, q_cl, q_let, q_lef, q_ltt, q_ltf, q_eqt, q_eqf, q_add, q_mul, Nat.reduceAdd, Nat.reduceLeDiff, Nat.reduceEqDiff, eq_self, Nat.zero_le, Nat.le_refl, not_false_eq_true, not_true_eq_false, true_and, and_true, and_self, if_true, if_false, p1.g17, p1.g13, hp, hL']
      exact k1 rfl N rN hR.2.2.2.2
theorem ct153 {S : Nat → mv_Sp} (h152 : S 152 = sp152) : ∀ As sh M P, sp153 As sh M P → (mv_al0 As).length ≤ 2 ∧ mr153 S P 0 (mv_ent As 2) [] sh M 0 0 := by
  rintro As sh M P ⟨X, rfl, p1, tXX, gX, tM, hl, k1, k0⟩
  refine ⟨Nat.le_of_ble_eq_true rfl, ?_⟩
  show mr153 S P 0 [some (.ref 0), none] [] sh M 0 0
  obtain ⟨l, hl2, hL, -⟩ := id tM
  simp (disch := first | assumption | omega) only [e153_0, e153_1, e153_2, e153_5, e153_6, e153_7, e153_10, e153_11, e153_12, e153_15, e153_16, e153_18, e153_21, e153_22, e153_23, e153_27, e153_30, e153_31, e153_34, e153_37, e153_38, e153_41, e153_42, e153_43, e153_46, e153_49, e153_50, e153_51, e153_54, e153_56, q_gv0, q_gvs, q_isI1, q_isA1, q_hs0, q_hsn, q_hsi, q_hsr, q_hss, q_inc1, List.set_cons_zero, List.set_cons_succ, ↓reduceIte, q_ss0, q_ssi, q_ssr, q_nr0, q_nr10, q_nr11, q_tlS, q_tlN, q_cl, q_let, q_lef, q_ltt, q_ltf, q_eqt, q_eqf, q_add, q_mul, Nat.reduceAdd, Nat.reduceLeDiff, Nat.reduceEqDiff, eq_self, Nat.zero_le, Nat.le_refl, not_false_eq_true, not_true_eq_false, true_and, and_true, and_self, if_true, if_false, p1.p17, p1.p19, p1.p23, p1.p25, p1.p26]
  have r : rdE M (mv_up (mv_up (mv_up (mv_up (mv_up M 0 17 (nI 0)) 0 19 (nI 0)) 0 23 (nI 0)) 0 25 (nI 20)) 0 26 (nI 0)) := rdE_0 (rdE_0 (rdE_0 (rdE_0 (rdE_0 rdE_r (by decide)) (by decide)) (by decide)) (by decide)) (by decide)
  exact lp153 h152 p1 hL hl2 200 (rt0 X) _ 0 none (rX_0 tXX gX tM hl) r (by rw [q_upN (by decide), q_upN (by decide), q_upN (by decide), q_upN (by decide), q_upS]) (by decide) (by omega) k1 k0
def sp187 : mv_Sp := sp153
theorem ct187 {S : Nat → mv_Sp} (h153 : S 153 = sp153) : ∀ As sh M P, sp187 As sh M P → (mv_al0 As).length ≤ 1 ∧ mr187 S P 0 (mv_ent As 1) [] sh M 0 0 := by
  rintro As sh M P ⟨X, rfl, p1, tXX, gX, tM, hl, k1, k0⟩
  refine ⟨Nat.le_of_ble_eq_true rfl, ?_⟩
  show mr187 S P 0 [some (.ref 0)] [] sh M 0 0
  simp (disch := first | assumption | omega) only [e187_0, e187_1, q_gv0, q_gvs, q_isI1, q_isA1, q_hs0, q_hsn, q_hsi, q_hsr, q_hss, q_inc1, List.set_cons_zero, List.set_cons_succ, ↓reduceIte, q_ss0, q_ssi, q_ssr, q_nr0, q_nr10, q_nr11, q_tlS, q_tlN, q_cl, q_let, q_lef, q_ltt, q_ltf, q_eqt, q_eqf, q_add, q_mul, Nat.reduceAdd, Nat.reduceLeDiff, Nat.reduceEqDiff, eq_self, Nat.zero_le, Nat.le_refl, not_false_eq_true, not_true_eq_false, true_and, and_true, and_self, if_true, if_false, p1.o]
  refine kal_of ?_
  rw [h153]
  refine ⟨X, rfl, p1, tXX, gX, tM, hl, fun e N rN b => ?_, fun e N rN => ?_⟩
  · show mr187 S P 4 [some (.ref 0)] [.int (Int32.ofInt (-4))] sh N 0 0
    simp (disch := first | assumption | omega) only [e187_0, e187_1, e187_4, q_gv0, q_gvs, q_isI1, q_isA1, q_hs0, q_hsn, q_hsi, q_hsr, q_hss, q_inc1, List.set_cons_zero, List.set_cons_succ, ↓reduceIte, q_ss0, q_ssi, q_ssr, q_nr0, q_nr10, q_nr11, q_tlS, q_tlN, q_cl, q_let, q_lef, q_ltt, q_ltf, q_eqt, q_eqf, q_add, q_mul, Nat.reduceAdd, Nat.reduceLeDiff, Nat.reduceEqDiff, eq_self, Nat.zero_le, Nat.le_refl, not_false_eq_true, not_true_eq_false, true_and, and_true, and_self, if_true, if_false]
    exact k1 e N rN b
  · show mr187 S P 4 [some (.ref 0)] [.int (tdM X).1] sh N 0 0
    simp (disch := first | assumption | omega) only [e187_0, e187_1, e187_4, q_gv0, q_gvs, q_isI1, q_isA1, q_hs0, q_hsn, q_hsi, q_hsr, q_hss, q_inc1, List.set_cons_zero, List.set_cons_succ, ↓reduceIte, q_ss0, q_ssi, q_ssr, q_nr0, q_nr10, q_nr11, q_tlS, q_tlN, q_cl, q_let, q_lef, q_ltt, q_ltf, q_eqt, q_eqf, q_add, q_mul, Nat.reduceAdd, Nat.reduceLeDiff, Nat.reduceEqDiff, eq_self, Nat.zero_le, Nat.le_refl, not_false_eq_true, not_true_eq_false, true_and, and_true, and_self, if_true, if_false]
    exact k0 e N rN
def sp214 : mv_Sp := fun As sh M Q => As = [.ref 0] ∧ ((oM sh)) ∧ Q (some (.int (M 0 13))) (sh) (mv_up M 0 13 (nI 0))
theorem cl214 {S : Nat → mv_Sp} (hS : S 214 = sp214) {sh : mv_Shp} {M : mv_Mem}  (p1 : oM sh) {K : mv_Kt} {pc : Nat} {L : mv_Loc} {st : List Value} {cc_ ss_ : Nat} : mv_kal S 214 [.ref 0] sh M K pc L st cc_ ss_ = K pc L ((some (.int (M 0 13)) : Option Value).toList ++ st) (sh) (mv_up M 0 13 (nI 0)) cc_ ss_ := by
  refine q_kal (fun F => q_cali (fun Q => ?_))
  rw [hS]
  constructor
  · rintro ⟨hE, zp1, hQ⟩
    exact hQ
  · intro hQ
    exact ⟨rfl, p1, hQ⟩
theorem ct214 {S : Nat → mv_Sp}  : ∀ As sh M P, sp214 As sh M P → (mv_al0 As).length ≤ 2 ∧ mr214 S P 0 (mv_ent As 2) [] sh M 0 0 := by
  rintro As sh M P ⟨rfl, p1, hQ⟩
  refine ⟨Nat.le_of_ble_eq_true rfl, ?_⟩
  show mr214 S P 0 [some (.ref 0), none] [] sh M 0 0
  simp (disch := first | assumption | omega) only [e214_0, e214_1, e214_4, e214_5, e214_6, e214_7, e214_10, e214_11, q_gv0, q_gvs, q_isI1, q_isA1, q_hs0, q_hsn, q_hsi, q_hsr, q_hss, q_inc1, List.set_cons_zero, List.set_cons_succ, ↓reduceIte, q_ss0, q_ssi, q_ssr, q_nr0, q_nr10, q_nr11, q_tlS, q_tlN, q_cl, q_let, q_lef, q_ltt, q_ltf, q_eqt, q_eqf, q_add, q_mul, Nat.reduceAdd, Nat.reduceLeDiff, Nat.reduceEqDiff, eq_self, Nat.zero_le, Nat.le_refl, not_false_eq_true, not_true_eq_false, true_and, and_true, and_self, if_true, if_false, p1.g13, p1.p13]
  exact hQ
theorem q_i2x {x : Int32} {k : Nat} (h : k < 2147483648) : lN k = (nI k).toInt64 := q_lc h
def sp215 : mv_Sp := fun As sh M Q => ∃ (x : Int32), As = [.ref 0, .int x] ∧ ((oM sh) ∧ (∃ n, n < 200 ∧ M 0 13 = nI n)) ∧ Q (some (.int (if x < nI 32 then Int32.ofInt (-1) else if nI 126 < x then Int32.ofInt (-1) else nI ((M 0 13).toNatClampNeg + 1)))) (sh) (if x < nI 32 then M else if nI 126 < x then M else mv_up (mv_up M 7 (M 0 13).toNatClampNeg x) 0 13 (nI ((M 0 13).toNatClampNeg + 1)))
theorem cl215 {S : Nat → mv_Sp} (hS : S 215 = sp215) {sh : mv_Shp} {M : mv_Mem} {x : Int32} (p1 : oM sh) (p2 : ∃ n, n < 200 ∧ M 0 13 = nI n) {K : mv_Kt} {pc : Nat} {L : mv_Loc} {st : List Value} {cc_ ss_ : Nat} : mv_kal S 215 [.ref 0, .int x] sh M K pc L st cc_ ss_ = K pc L ((some (.int (if x < nI 32 then Int32.ofInt (-1) else if nI 126 < x then Int32.ofInt (-1) else nI ((M 0 13).toNatClampNeg + 1))) : Option Value).toList ++ st) (sh) (if x < nI 32 then M else if nI 126 < x then M else mv_up (mv_up M 7 (M 0 13).toNatClampNeg x) 0 13 (nI ((M 0 13).toNatClampNeg + 1))) cc_ ss_ := by
  refine q_kal (fun F => q_cali (fun Q => ?_))
  rw [hS]
  constructor
  · rintro ⟨x', hE, ⟨zp1, zp2⟩, hQ⟩
    simp only [List.cons.injEq, Value.ref.injEq, Value.int.injEq, Value.long.injEq, and_true, true_and] at hE
    subst hE
    exact hQ
  · intro hQ
    exact ⟨x, rfl, ⟨p1, p2⟩, hQ⟩
theorem ct215 {S : Nat → mv_Sp} (h144 : S 144 = sp144) : ∀ As sh M P, sp215 As sh M P → (mv_al0 As).length ≤ 2 ∧ mr215 S P 0 (mv_ent As 2) [] sh M 0 0 := by
  rintro As sh M P ⟨x, rfl, ⟨p1, p2⟩, hQ⟩
  refine ⟨Nat.le_of_ble_eq_true rfl, ?_⟩
  show mr215 S P 0 [some (.ref 0), some (.int x)] [] sh M 0 0
  obtain ⟨n, hn, hN⟩ := p2
  have i0 : inN x (nI 32) (nI 126) = if x < nI 32 then 0 else if nI 126 < x then 0 else 1 := rfl
  by_cases c1 : x < nI 32
  · rw [if_pos c1] at hQ i0
    rw [if_pos c1] at hQ
    simp (disch := first | assumption | omega) only [e215_0, e215_1, e215_2, e215_5, e215_8, e215_11, e215_14, e215_15, e215_16, e215_17, e215_20, e215_23, e215_26, e215_28, e215_29, e215_30, e215_33, e215_34, e215_37, e215_38, e215_39, e215_40, e215_40r, e215_41, e215_44, e215_45, e215_46, e215_49, e215_50, e215_53, q_gv0, q_gvs, q_isI1, q_isA1, q_hs0, q_hsn, q_hsi, q_hsr, q_hss, q_inc1, List.set_cons_zero, List.set_cons_succ, ↓reduceIte, q_ss0, q_ssi, q_ssr, q_nr0, q_nr10, q_nr11, q_tlS, q_tlN, q_cl, q_let, q_lef, q_ltt, q_ltf, q_eqt, q_eqf, q_add, q_mul, Nat.reduceAdd, Nat.reduceLeDiff, Nat.reduceEqDiff, eq_self, Nat.zero_le, Nat.le_refl, not_false_eq_true, not_true_eq_false, true_and, and_true, and_self, if_true, if_false, q_isL1, q_lc, cr144 h144, i0]
    exact hQ
  rw [if_neg c1] at hQ i0
  rw [if_neg c1] at hQ
  by_cases c2 : nI 126 < x
  · rw [if_pos c2] at hQ i0
    rw [if_pos c2] at hQ
    simp (disch := first | assumption | omega) only [e215_0, e215_1, e215_2, e215_5, e215_8, e215_11, e215_14, e215_15, e215_16, e215_17, e215_20, e215_23, e215_26, e215_28, e215_29, e215_30, e215_33, e215_34, e215_37, e215_38, e215_39, e215_40, e215_40r, e215_41, e215_44, e215_45, e215_46, e215_49, e215_50, e215_53, q_gv0, q_gvs, q_isI1, q_isA1, q_hs0, q_hsn, q_hsi, q_hsr, q_hss, q_inc1, List.set_cons_zero, List.set_cons_succ, ↓reduceIte, q_ss0, q_ssi, q_ssr, q_nr0, q_nr10, q_nr11, q_tlS, q_tlN, q_cl, q_let, q_lef, q_ltt, q_ltf, q_eqt, q_eqf, q_add, q_mul, Nat.reduceAdd, Nat.reduceLeDiff, Nat.reduceEqDiff, eq_self, Nat.zero_le, Nat.le_refl, not_false_eq_true, not_true_eq_false, true_and, and_true, and_self, if_true, if_false, q_isL1, q_lc, cr144 h144, i0]
    exact hQ
  rw [if_neg c2] at hQ i0
  rw [if_neg c2, hN, q_cl (by omega)] at hQ
  have n2 : ¬ n = 200 := by omega
  simp (disch := first | assumption | omega) only [e215_0, e215_1, e215_2, e215_5, e215_8, e215_11, e215_14, e215_15, e215_16, e215_17, e215_20, e215_23, e215_26, e215_28, e215_29, e215_30, e215_33, e215_34, e215_37, e215_38, e215_39, e215_40, e215_40r, e215_41, e215_44, e215_45, e215_46, e215_49, e215_50, e215_53, e215_40r, q_gv0, q_gvs, q_isI1, q_isA1, q_hs0, q_hsn, q_hsi, q_hsr, q_hss, q_inc1, List.set_cons_zero, List.set_cons_succ, ↓reduceIte, q_ss0, q_ssi, q_ssr, q_nr0, q_nr10, q_nr11, q_tlS, q_tlN, q_cl, q_let, q_lef, q_ltt, q_ltf, q_eqt, q_eqf, q_add, q_mul, Nat.reduceAdd, Nat.reduceLeDiff, Nat.reduceEqDiff, eq_self, Nat.zero_le, Nat.le_refl, not_false_eq_true, not_true_eq_false, true_and, and_true, and_self, if_true, if_false, q_isL1, q_lc, cr144 h144, i0, p1.g13, p1.g12, p1.s7, p1.p13, hN, q_upO, q_upS]
  exact hQ
