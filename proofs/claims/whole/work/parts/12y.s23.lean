/-! more public ones -/
theorem rmM_out {M : mv_Mem} {b : Nat} (h0 : ¬ b = 0) (hb : b < 25) : rmM M b = M b := by
  unfold rmM
  rw [q_upO h0, q_upO h0, cpM_out (by omega) (by omega) (by omega)]
def clX (M : mv_Mem) (a : Nat) (x : Int32) : Int32 := clF (fun t => M (a + 3) (t * 4 + (hlF x t).toNatClampNeg)) (M a 0).toNatClampNeg
theorem cr67 {S : Nat → mv_Sp} (h : S 67 = sp67) {sh : mv_Shp} {M : mv_Mem} {a : Nat} {x : Int32} {K : mv_Kt} {pc : Nat} {L : mv_Loc} {st : List Value} {c s : Nat} (p1 : oL sh a) (p2 : ∃ n, n ≤ 6 ∧ M a 0 = nI n) :
    mv_kal S 67 [.ref a, .int x] sh M K pc L st c s = K pc L ((some (.int (clX M a x))).toList ++ st) sh M c s := cl67 h p1 p2
def sp128 : mv_Sp := fun As sh M Q => ∃ (x : Int32), As = [.ref 0, .int x] ∧ ((oX sh) ∧ (∃ n, n ≤ 6 ∧ M 3 0 = nI n)) ∧ Q (some (.int (if x = nI 0 then clX M 3 (tpX M 18) else if x = nI 1 then slF (snF M 18) (M 3 0).toNatClampNeg else Int32.ofInt (-1)))) (sh) (M)
theorem cl128 {S : Nat → mv_Sp} (hS : S 128 = sp128) {sh : mv_Shp} {M : mv_Mem} {x : Int32} (p1 : oX sh) (p2 : ∃ n, n ≤ 6 ∧ M 3 0 = nI n) {K : mv_Kt} {pc : Nat} {L : mv_Loc} {st : List Value} {cc_ ss_ : Nat} : mv_kal S 128 [.ref 0, .int x] sh M K pc L st cc_ ss_ = K pc L ((some (.int (if x = nI 0 then clX M 3 (tpX M 18) else if x = nI 1 then slF (snF M 18) (M 3 0).toNatClampNeg else Int32.ofInt (-1))) : Option Value).toList ++ st) (sh) (M) cc_ ss_ := by
  refine q_kal (fun F => q_cali (fun Q => ?_))
  rw [hS]
  constructor
  · rintro ⟨x', hE, ⟨zp1, zp2⟩, hQ⟩
    simp only [List.cons.injEq, Value.ref.injEq, Value.int.injEq, Value.long.injEq, and_true, true_and] at hE
    subst hE
    exact hQ
  · intro hQ
    exact ⟨x, rfl, ⟨p1, p2⟩, hQ⟩
theorem ct128 {S : Nat → mv_Sp} (h66 : S 66 = sp66) (h67 : S 67 = sp67) (h69 : S 69 = sp69) : ∀ As sh M P, sp128 As sh M P → (mv_al0 As).length ≤ 2 ∧ mr128 S P 0 (mv_ent As 2) [] sh M 0 0 := by
  rintro As sh M P ⟨x, rfl, ⟨p1, p2⟩, hQ⟩
  refine ⟨Nat.le_of_ble_eq_true rfl, ?_⟩
  show mr128 S P 0 [some (.ref 0), some (.int x)] [] sh M 0 0
  have hl := p1.loom
  have hc := p1.cloth
  obtain ⟨n, hn, hN⟩ := id p2
  have n7 : n < 7 := by omega
  rw [hN, q_cl (show n < 2147483648 by omega)] at hQ
  by_cases c1 : x = nI 0
  · rw [if_pos c1] at hQ
    simp (disch := first | assumption | omega) only [e128_0, e128_1, e128_4, e128_5, e128_8, e128_9, e128_12, e128_15, e128_18, e128_19, e128_20, e128_21, e128_24, e128_25, e128_28, e128_29, e128_32, e128_35, e128_38, e128_41, e128_42, q_gv0, q_gvs, q_isI1, q_isA1, q_hs0, q_hsn, q_hsi, q_hsr, q_hss, q_inc1, List.set_cons_zero, List.set_cons_succ, ↓reduceIte, q_ss0, q_ssi, q_ssr, q_nr0, q_nr10, q_nr11, q_tlS, q_tlN, q_cl, q_let, q_lef, q_ltt, q_ltf, q_eqt, q_eqf, q_add, q_mul, Nat.reduceAdd, Nat.reduceLeDiff, Nat.reduceEqDiff, eq_self, Nat.zero_le, Nat.le_refl, not_false_eq_true, not_true_eq_false, true_and, and_true, and_self, if_true, if_false, p1.g1, p1.g3, hl.o, hc.o, c1, cr66 h66, cr67 h67]
    exact hQ
  rw [if_neg c1] at hQ
  by_cases c2 : x = nI 1
  · rw [if_pos c2] at hQ
    simp (disch := first | assumption | omega) only [e128_0, e128_1, e128_4, e128_5, e128_8, e128_9, e128_12, e128_15, e128_18, e128_19, e128_20, e128_21, e128_24, e128_25, e128_28, e128_29, e128_32, e128_35, e128_38, e128_41, e128_42, q_gv0, q_gvs, q_isI1, q_isA1, q_hs0, q_hsn, q_hsi, q_hsr, q_hss, q_inc1, List.set_cons_zero, List.set_cons_succ, ↓reduceIte, q_ss0, q_ssi, q_ssr, q_nr0, q_nr10, q_nr11, q_tlS, q_tlN, q_cl, q_let, q_lef, q_ltt, q_ltf, q_eqt, q_eqf, q_add, q_mul, Nat.reduceAdd, Nat.reduceLeDiff, Nat.reduceEqDiff, eq_self, Nat.zero_le, Nat.le_refl, not_false_eq_true, not_true_eq_false, true_and, and_true, and_self, if_true, if_false, p1.g1, p1.g3, hl.g0, hc.o, c1, c2, hN, cl69 h69]
    exact hQ
  rw [if_neg c2] at hQ
  simp (disch := first | assumption | omega) only [e128_0, e128_1, e128_4, e128_5, e128_8, e128_9, e128_12, e128_15, e128_18, e128_19, e128_20, e128_21, e128_24, e128_25, e128_28, e128_29, e128_32, e128_35, e128_38, e128_41, e128_42, q_gv0, q_gvs, q_isI1, q_isA1, q_hs0, q_hsn, q_hsi, q_hsr, q_hss, q_inc1, List.set_cons_zero, List.set_cons_succ, ↓reduceIte, q_ss0, q_ssi, q_ssr, q_nr0, q_nr10, q_nr11, q_tlS, q_tlN, q_cl, q_let, q_lef, q_ltt, q_ltf, q_eqt, q_eqf, q_add, q_mul, Nat.reduceAdd, Nat.reduceLeDiff, Nat.reduceEqDiff, eq_self, Nat.zero_le, Nat.le_refl, not_false_eq_true, not_true_eq_false, true_and, and_true, and_self, if_true, if_false, c1, c2]
  exact hQ
def sp124 : mv_Sp := fun As sh M Q => ∃ (x : Int32), As = [.ref 0, .int x] ∧ ((oX sh) ∧ (∃ n, n ≤ 6 ∧ M 3 0 = nI n) ∧ (∃ n, n ≤ 6 ∧ M 0 11 = nI n)) ∧ Q (some (.int (if x < nI 0 then Int32.ofInt (-1) else if nI (10 ^ (M 3 0).toNatClampNeg) ≤ x then Int32.ofInt (-1) else if M 0 11 = nI 6 then Int32.ofInt (-3) else nI ((M 0 11).toNatClampNeg + 1)))) (sh) (if x < nI 0 then M else if nI (10 ^ (M 3 0).toNatClampNeg) ≤ x then M else if M 0 11 = nI 6 then M else mv_up (mv_up M 56 (M 0 11).toNatClampNeg x) 0 11 (nI ((M 0 11).toNatClampNeg + 1)))
theorem cl124 {S : Nat → mv_Sp} (hS : S 124 = sp124) {sh : mv_Shp} {M : mv_Mem} {x : Int32} (p1 : oX sh) (p2 : ∃ n, n ≤ 6 ∧ M 3 0 = nI n) (p3 : ∃ n, n ≤ 6 ∧ M 0 11 = nI n) {K : mv_Kt} {pc : Nat} {L : mv_Loc} {st : List Value} {cc_ ss_ : Nat} : mv_kal S 124 [.ref 0, .int x] sh M K pc L st cc_ ss_ = K pc L ((some (.int (if x < nI 0 then Int32.ofInt (-1) else if nI (10 ^ (M 3 0).toNatClampNeg) ≤ x then Int32.ofInt (-1) else if M 0 11 = nI 6 then Int32.ofInt (-3) else nI ((M 0 11).toNatClampNeg + 1))) : Option Value).toList ++ st) (sh) (if x < nI 0 then M else if nI (10 ^ (M 3 0).toNatClampNeg) ≤ x then M else if M 0 11 = nI 6 then M else mv_up (mv_up M 56 (M 0 11).toNatClampNeg x) 0 11 (nI ((M 0 11).toNatClampNeg + 1))) cc_ ss_ := by
  refine q_kal (fun F => q_cali (fun Q => ?_))
  rw [hS]
  constructor
  · rintro ⟨x', hE, ⟨zp1, zp2, zp3⟩, hQ⟩
    simp only [List.cons.injEq, Value.ref.injEq, Value.int.injEq, Value.long.injEq, and_true, true_and] at hE
    subst hE
    exact hQ
  · intro hQ
    exact ⟨x, rfl, ⟨p1, p2, p3⟩, hQ⟩
theorem ct124 {S : Nat → mv_Sp} (h73 : S 73 = sp73) : ∀ As sh M P, sp124 As sh M P → (mv_al0 As).length ≤ 2 ∧ mr124 S P 0 (mv_ent As 2) [] sh M 0 0 := by
  rintro As sh M P ⟨x, rfl, ⟨p1, p2, p3⟩, hQ⟩
  refine ⟨Nat.le_of_ble_eq_true rfl, ?_⟩
  show mr124 S P 0 [some (.ref 0), some (.int x)] [] sh M 0 0
  have hl := p1.loom
  obtain ⟨n, hn, hN⟩ := id p3
  by_cases c1 : x < nI 0
  · rw [if_pos c1, if_pos c1] at hQ
    simp (disch := first | assumption | omega) only [e124_0, e124_1, e124_4, e124_5, e124_8, e124_11, e124_12, e124_13, e124_14, e124_17, e124_19, e124_22, e124_24, e124_25, e124_26, e124_29, e124_30, e124_33, e124_34, e124_35, e124_36, e124_36r, e124_37, e124_40, e124_41, e124_42, e124_45, e124_46, e124_49, q_gv0, q_gvs, q_isI1, q_isA1, q_hs0, q_hsn, q_hsi, q_hsr, q_hss, q_inc1, List.set_cons_zero, List.set_cons_succ, ↓reduceIte, q_ss0, q_ssi, q_ssr, q_nr0, q_nr10, q_nr11, q_tlS, q_tlN, q_cl, q_let, q_lef, q_ltt, q_ltf, q_eqt, q_eqf, q_add, q_mul, Nat.reduceAdd, Nat.reduceLeDiff, Nat.reduceEqDiff, eq_self, Nat.zero_le, Nat.le_refl, not_false_eq_true, not_true_eq_false, true_and, and_true, and_self, if_true, if_false, p1.g1, hl.o, c1, cl73 h73]
    exact hQ
  rw [if_neg c1, if_neg c1] at hQ
  by_cases c2 : nI (10 ^ (M 3 0).toNatClampNeg) ≤ x
  · rw [if_pos c2, if_pos c2] at hQ
    simp (disch := first | assumption | omega) only [e124_0, e124_1, e124_4, e124_5, e124_8, e124_11, e124_12, e124_13, e124_14, e124_17, e124_19, e124_22, e124_24, e124_25, e124_26, e124_29, e124_30, e124_33, e124_34, e124_35, e124_36, e124_36r, e124_37, e124_40, e124_41, e124_42, e124_45, e124_46, e124_49, q_gv0, q_gvs, q_isI1, q_isA1, q_hs0, q_hsn, q_hsi, q_hsr, q_hss, q_inc1, List.set_cons_zero, List.set_cons_succ, ↓reduceIte, q_ss0, q_ssi, q_ssr, q_nr0, q_nr10, q_nr11, q_tlS, q_tlN, q_cl, q_let, q_lef, q_ltt, q_ltf, q_eqt, q_eqf, q_add, q_mul, Nat.reduceAdd, Nat.reduceLeDiff, Nat.reduceEqDiff, eq_self, Nat.zero_le, Nat.le_refl, not_false_eq_true, not_true_eq_false, true_and, and_true, and_self, if_true, if_false, p1.g1, hl.o, c1, c2, cl73 h73]
    exact hQ
  rw [if_neg c2, if_neg c2] at hQ
  by_cases c3 : n = 6
  · subst c3
    rw [if_pos hN, if_pos hN] at hQ
    simp (disch := first | assumption | omega) only [e124_0, e124_1, e124_4, e124_5, e124_8, e124_11, e124_12, e124_13, e124_14, e124_17, e124_19, e124_22, e124_24, e124_25, e124_26, e124_29, e124_30, e124_33, e124_34, e124_35, e124_36, e124_36r, e124_37, e124_40, e124_41, e124_42, e124_45, e124_46, e124_49, q_gv0, q_gvs, q_isI1, q_isA1, q_hs0, q_hsn, q_hsi, q_hsr, q_hss, q_inc1, List.set_cons_zero, List.set_cons_succ, ↓reduceIte, q_ss0, q_ssi, q_ssr, q_nr0, q_nr10, q_nr11, q_tlS, q_tlN, q_cl, q_let, q_lef, q_ltt, q_ltf, q_eqt, q_eqf, q_add, q_mul, Nat.reduceAdd, Nat.reduceLeDiff, Nat.reduceEqDiff, eq_self, Nat.zero_le, Nat.le_refl, not_false_eq_true, not_true_eq_false, true_and, and_true, and_self, if_true, if_false, p1.g1, p1.g11, hl.o, c1, c2, hN, cl73 h73]
    exact hQ
  have c4 : ¬ M 0 11 = nI 6 := fun z => c3 ((nI_eq (by omega) (by omega)).mp (hN.symm.trans z))
  rw [if_neg c4, if_neg c4, hN, q_cl (show n < 2147483648 by omega)] at hQ
  simp (disch := first | assumption | omega) only [e124_0, e124_1, e124_4, e124_5, e124_8, e124_11, e124_12, e124_13, e124_14, e124_17, e124_19, e124_22, e124_24, e124_25, e124_26, e124_29, e124_30, e124_33, e124_34, e124_35, e124_36, e124_36r, e124_37, e124_40, e124_41, e124_42, e124_45, e124_46, e124_49, q_gv0, q_gvs, q_isI1, q_isA1, q_hs0, q_hsn, q_hsi, q_hsr, q_hss, q_inc1, List.set_cons_zero, List.set_cons_succ, ↓reduceIte, q_ss0, q_ssi, q_ssr, q_nr0, q_nr10, q_nr11, q_tlS, q_tlN, q_cl, q_let, q_lef, q_ltt, q_ltf, q_eqt, q_eqf, q_add, q_mul, Nat.reduceAdd, Nat.reduceLeDiff, Nat.reduceEqDiff, eq_self, Nat.zero_le, Nat.le_refl, not_false_eq_true, not_true_eq_false, true_and, and_true, and_self, if_true, if_false, e124_36r, p1.g1, p1.g10, p1.g11, p1.p11, p1.s56, hl.o, c1, c2, hN, cl73 h73, q_upO, q_upS]
  exact hQ
def sp110 : mv_Sp := fun As sh M Q => As = [.ref 0] ∧ ((oX sh) ∧ (∃ n, n < 3 ∧ M 0 9 = nI n) ∧ (∃ r, r < 25 ∧ M 18 2 = nI r)) ∧ Q (some (.int (if M 0 9 = nI 2 then Int32.ofInt (-3) else nI ((M 0 9).toNatClampNeg + 1)))) (sh) (if M 0 9 = nI 2 then M else mv_up (cpM M (50 + 3 * (M 0 9).toNatClampNeg) 18) 0 9 (nI ((M 0 9).toNatClampNeg + 1)))
theorem cl110 {S : Nat → mv_Sp} (hS : S 110 = sp110) {sh : mv_Shp} {M : mv_Mem}  (p1 : oX sh) (p2 : ∃ n, n < 3 ∧ M 0 9 = nI n) (p3 : ∃ r, r < 25 ∧ M 18 2 = nI r) {K : mv_Kt} {pc : Nat} {L : mv_Loc} {st : List Value} {cc_ ss_ : Nat} : mv_kal S 110 [.ref 0] sh M K pc L st cc_ ss_ = K pc L ((some (.int (if M 0 9 = nI 2 then Int32.ofInt (-3) else nI ((M 0 9).toNatClampNeg + 1))) : Option Value).toList ++ st) (sh) (if M 0 9 = nI 2 then M else mv_up (cpM M (50 + 3 * (M 0 9).toNatClampNeg) 18) 0 9 (nI ((M 0 9).toNatClampNeg + 1))) cc_ ss_ := by
  refine q_kal (fun F => q_cali (fun Q => ?_))
  rw [hS]
  constructor
  · rintro ⟨hE, ⟨zp1, zp2, zp3⟩, hQ⟩
    exact hQ
  · intro hQ
    exact ⟨rfl, ⟨p1, p2, p3⟩, hQ⟩
theorem ct110 {S : Nat → mv_Sp} (h52 : S 52 = sp52) : ∀ As sh M P, sp110 As sh M P → (mv_al0 As).length ≤ 1 ∧ mr110 S P 0 (mv_ent As 1) [] sh M 0 0 := by
  rintro As sh M P ⟨rfl, ⟨p1, p2, p3⟩, hQ⟩
  refine ⟨Nat.le_of_ble_eq_true rfl, ?_⟩
  show mr110 S P 0 [some (.ref 0)] [] sh M 0 0
  obtain ⟨n, hn, hN⟩ := id p2
  have hc := p1.cloth
  by_cases c3 : n = 2
  · subst c3
    rw [if_pos hN, if_pos hN] at hQ
    simp (disch := first | assumption | omega) only [e110_0, e110_1, e110_4, e110_5, e110_8, e110_10, e110_11, e110_12, e110_15, e110_16, e110_19, e110_20, e110_21, e110_24, e110_27, e110_28, e110_28r, e110_29, e110_32, e110_33, e110_34, e110_37, e110_38, e110_41, q_gv0, q_gvs, q_isI1, q_isA1, q_hs0, q_hsn, q_hsi, q_hsr, q_hss, q_inc1, List.set_cons_zero, List.set_cons_succ, ↓reduceIte, q_ss0, q_ssi, q_ssr, q_nr0, q_nr10, q_nr11, q_tlS, q_tlN, q_cl, q_let, q_lef, q_ltt, q_ltf, q_eqt, q_eqf, q_add, q_mul, Nat.reduceAdd, Nat.reduceLeDiff, Nat.reduceEqDiff, eq_self, Nat.zero_le, Nat.le_refl, not_false_eq_true, not_true_eq_false, true_and, and_true, and_self, if_true, if_false, p1.g9, hN]
    exact hQ
  have c4 : ¬ M 0 9 = nI 2 := fun z => c3 ((nI_eq (by omega) (by omega)).mp (hN.symm.trans z))
  rw [if_neg c4, if_neg c4, hN, q_cl (show n < 2147483648 by omega)] at hQ
  have m2 : n < 2 := by omega
  have hk := p1.kep m2
  have ec : cpM M (50 + 3 * n) 18 0 = M 0 := cpM_out (by omega) (by omega) (by omega)
  simp (disch := first | assumption | omega) only [e110_0, e110_1, e110_4, e110_5, e110_8, e110_10, e110_11, e110_12, e110_15, e110_16, e110_19, e110_20, e110_21, e110_24, e110_27, e110_28, e110_28r, e110_29, e110_32, e110_33, e110_34, e110_37, e110_38, e110_41, q_gv0, q_gvs, q_isI1, q_isA1, q_hs0, q_hsn, q_hsi, q_hsr, q_hss, q_inc1, List.set_cons_zero, List.set_cons_succ, ↓reduceIte, q_ss0, q_ssi, q_ssr, q_nr0, q_nr10, q_nr11, q_tlS, q_tlN, q_cl, q_let, q_lef, q_ltt, q_ltf, q_eqt, q_eqf, q_add, q_mul, Nat.reduceAdd, Nat.reduceLeDiff, Nat.reduceEqDiff, eq_self, Nat.zero_le, Nat.le_refl, not_false_eq_true, not_true_eq_false, true_and, and_true, and_self, if_true, if_false, e110_28r, p1.g3, p1.g8, p1.g9, p1.p9, p1.k, hk.o, hN, cl52 h52, ec, q_upS]
  exact hQ
