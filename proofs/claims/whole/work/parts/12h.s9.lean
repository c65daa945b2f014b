/-! drafts, items, the text -/
/-- a draft's row read: how it ended (1: so far so good), the place, the picks, the memory -/
def drF (T : Nat → Nat) (nP : Nat) : Nat → Nat → Nat → mv_Mem → Nat × Nat × Nat × mv_Mem
  | 0, k, p, M => (1, p, k, M)
  | n + 1, k, p, M => if T p = 59 then (1, p, k, M) else if fgF T p = 0 then (0, nxF T p, k, M) else if nP < fgF T p then (0, nxF T (p + 1), k, M)
    else if T (p + 1) = 102 then drF T nP n (k + 1) (p + 1 + 1) (mv_up (mv_up M 17 k (nI (10 * (fgF T p - 1) + 0))) 11 2 (nI (k + 1)))
    else if T (p + 1) = 98 then drF T nP n (k + 1) (p + 1 + 1) (mv_up (mv_up M 17 k (nI (10 * (fgF T p - 1) + 1))) 11 2 (nI (k + 1)))
    else (0, nxF T (p + 1), k, M)
theorem lp38 {S : Nat → mv_Sp} (h25 : S 25 = sp25) (h26 : S 26 = sp26) (h27 : S 27 = sp27) (h36 : S 36 = sp36) (h37 : S 37 = sp37) {sh : mv_Shp} {P : mv_Post} {nP : Nat} {T : Nat → Nat} (p1 : oX sh) (hP6 : nP ≤ 6) :
    ∀ n k p (M : mv_Mem) x2 x3, k + n = 8 → p < 201 → tX M → lx M = T → M 11 1 = nI nP → M 11 2 = nI k →
      ((drF T nP n k p M).1 = 0 → P (some (.int (nI 0))) sh (mv_up (drF T nP n k p M).2.2.2 10 2 (nI (drF T nP n k p M).2.1))) →
      ((drF T nP n k p M).1 = 1 → ∀ x1 x2 x3, (drF T nP n k p M).2.1 < 201 → (drF T nP n k p M).2.2.1 < 9 → tX (drF T nP n k p M).2.2.2 → lx (drF T nP n k p M).2.2.2 = T → (drF T nP n k p M).2.2.2 11 2 = nI (drF T nP n k p M).2.2.1 →
        mr38 S P 77 [some (.ref 10), x1, x2, x3] [] sh (mv_up (drF T nP n k p M).2.2.2 10 2 (nI (drF T nP n k p M).2.1)) 0 0) →
      mr38 S P 10 [some (.ref 10), some (.int (nI k)), x2, x3] [] sh (mv_up M 10 2 (nI p)) 0 0
  | 0, k, p, M, x2, x3, hk, hp, p2, hl, hN, hK, h0, h1 => by
    obtain rfl : k = 8 := by omega
    rw [e38_10]
    simp (disch := first | assumption | omega | exact tX_up p2 (by decide) (by decide) | exact pl_ex (by omega)) only [e38_0, e38_1, e38_4, e38_5, e38_8, e38_9, e38_11, e38_13, e38_16, e38_17, e38_20, e38_22, e38_25, e38_26, e38_29, e38_30, e38_31, e38_34, e38_37, e38_38, e38_39, e38_42, e38_43, e38_44, e38_47, e38_50, e38_53, e38_54, e38_57, e38_58, e38_61, e38_62, e38_63, e38_66, e38_69, e38_70, e38_71, e38_74, e38_78, e38_81, e38_84, e38_87, e38_88, e38_91, e38_93, e38_96, e38_97, e38_100, e38_101, q_gv0, q_gvs, q_isI1, q_isA1, q_hs0, q_hsn, q_hsi, q_hsr, q_hss, q_inc1, List.set_cons_zero, List.set_cons_succ, ↓reduceIte, q_ss0, q_ssi, q_ssr, q_nr0, q_nr10, q_nr11, q_tlS, q_tlN, q_cl, q_let, q_lef, q_ltt, q_ltf, q_eqt, q_eqf, q_add, q_mul, Nat.reduceAdd, Nat.reduceLeDiff, Nat.reduceEqDiff, eq_self, Nat.zero_le, Nat.le_refl, not_false_eq_true, not_true_eq_false, true_and, and_true, and_self, if_true, if_false]
    exact h1 rfl _ x2 x3 hp (show 8 < 9 by decide) p2 hl hK
  | n + 1, k, p, M, x2, x3, hk, hp, p2, hl, hN, hK, h0, h1 => by
    rw [e38_10]
    have ht := p1.told
    subst hl
    have l1 := lx_lt p2 p
    have l2 := lx_lt p2 (p + 1)
    have f1 := fgF_le (lx M) p
    unfold drF at h0 h1
    by_cases c1 : lx M p = 59
    · rw [if_pos c1] at h1
      simp (disch := first | assumption | omega | exact tX_up p2 (by decide) (by decide) | exact pl_ex (by omega)) only [e38_0, e38_1, e38_4, e38_5, e38_8, e38_9, e38_11, e38_13, e38_16, e38_17, e38_20, e38_22, e38_25, e38_26, e38_29, e38_30, e38_31, e38_34, e38_37, e38_38, e38_39, e38_42, e38_43, e38_44, e38_47, e38_50, e38_53, e38_54, e38_57, e38_58, e38_61, e38_62, e38_63, e38_66, e38_69, e38_70, e38_71, e38_74, e38_78, e38_81, e38_84, e38_87, e38_88, e38_91, e38_93, e38_96, e38_97, e38_100, e38_101, q_gv0, q_gvs, q_isI1, q_isA1, q_hs0, q_hsn, q_hsi, q_hsr, q_hss, q_inc1, List.set_cons_zero, List.set_cons_succ, ↓reduceIte, q_ss0, q_ssi, q_ssr, q_nr0, q_nr10, q_nr11, q_tlS, q_tlN, q_cl, q_let, q_lef, q_ltt, q_ltf, q_eqt, q_eqf, q_add, q_mul, Nat.reduceAdd, Nat.reduceLeDiff, Nat.reduceEqDiff, eq_self, Nat.zero_le, Nat.le_refl, not_false_eq_true, not_true_eq_false, true_and, and_true, and_self, if_true, if_false, p1.o10, cl25 h25, q_upS, lx_up, c1]
      exact h1 rfl _ x2 x3 hp (show k < 9 by omega) p2 rfl hK
    rw [if_neg c1] at h0 h1
    by_cases c2 : fgF (lx M) p = 0
    · rw [if_pos c2] at h0
      have l3 : lx M p < 128 := l1
      by_cases c4 : lx M p = 102
      · simp (disch := first | assumption | omega | exact tX_up p2 (by decide) (by decide) | exact pl_ex (by omega)) only [e38_0, e38_1, e38_4, e38_5, e38_8, e38_9, e38_11, e38_13, e38_16, e38_17, e38_20, e38_22, e38_25, e38_26, e38_29, e38_30, e38_31, e38_34, e38_37, e38_38, e38_39, e38_42, e38_43, e38_44, e38_47, e38_50, e38_53, e38_54, e38_57, e38_58, e38_61, e38_62, e38_63, e38_66, e38_69, e38_70, e38_71, e38_74, e38_78, e38_81, e38_84, e38_87, e38_88, e38_91, e38_93, e38_96, e38_97, e38_100, e38_101, q_gv0, q_gvs, q_isI1, q_isA1, q_hs0, q_hsn, q_hsi, q_hsr, q_hss, q_inc1, List.set_cons_zero, List.set_cons_succ, ↓reduceIte, q_ss0, q_ssi, q_ssr, q_nr0, q_nr10, q_nr11, q_tlS, q_tlN, q_cl, q_let, q_lef, q_ltt, q_ltf, q_eqt, q_eqf, q_add, q_mul, Nat.reduceAdd, Nat.reduceLeDiff, Nat.reduceEqDiff, eq_self, Nat.zero_le, Nat.le_refl, not_false_eq_true, not_true_eq_false, true_and, and_true, and_self, if_true, if_false, p1.o10, cl25 h25, cl26 h26, cl27 h27, cl36 h36, q_upS, q_upup, lx_up, c1, c2, c4, q_m1lt, fgP0]
        exact h0 rfl
      by_cases c5 : lx M p = 98
      · simp (disch := first | assumption | omega | exact tX_up p2 (by decide) (by decide) | exact pl_ex (by omega)) only [e38_0, e38_1, e38_4, e38_5, e38_8, e38_9, e38_11, e38_13, e38_16, e38_17, e38_20, e38_22, e38_25, e38_26, e38_29, e38_30, e38_31, e38_34, e38_37, e38_38, e38_39, e38_42, e38_43, e38_44, e38_47, e38_50, e38_53, e38_54, e38_57, e38_58, e38_61, e38_62, e38_63, e38_66, e38_69, e38_70, e38_71, e38_74, e38_78, e38_81, e38_84, e38_87, e38_88, e38_91, e38_93, e38_96, e38_97, e38_100, e38_101, q_gv0, q_gvs, q_isI1, q_isA1, q_hs0, q_hsn, q_hsi, q_hsr, q_hss, q_inc1, List.set_cons_zero, List.set_cons_succ, ↓reduceIte, q_ss0, q_ssi, q_ssr, q_nr0, q_nr10, q_nr11, q_tlS, q_tlN, q_cl, q_let, q_lef, q_ltt, q_ltf, q_eqt, q_eqf, q_add, q_mul, Nat.reduceAdd, Nat.reduceLeDiff, Nat.reduceEqDiff, eq_self, Nat.zero_le, Nat.le_refl, not_false_eq_true, not_true_eq_false, true_and, and_true, and_self, if_true, if_false, p1.o10, cl25 h25, cl26 h26, cl27 h27, cl36 h36, q_upS, q_upup, lx_up, c1, c2, c4, c5, q_m1lt, fgP0]
        exact h0 rfl
      · simp (disch := first | assumption | omega | exact tX_up p2 (by decide) (by decide) | exact pl_ex (by omega)) only [e38_0, e38_1, e38_4, e38_5, e38_8, e38_9, e38_11, e38_13, e38_16, e38_17, e38_20, e38_22, e38_25, e38_26, e38_29, e38_30, e38_31, e38_34, e38_37, e38_38, e38_39, e38_42, e38_43, e38_44, e38_47, e38_50, e38_53, e38_54, e38_57, e38_58, e38_61, e38_62, e38_63, e38_66, e38_69, e38_70, e38_71, e38_74, e38_78, e38_81, e38_84, e38_87, e38_88, e38_91, e38_93, e38_96, e38_97, e38_100, e38_101, q_gv0, q_gvs, q_isI1, q_isA1, q_hs0, q_hsn, q_hsi, q_hsr, q_hss, q_inc1, List.set_cons_zero, List.set_cons_succ, ↓reduceIte, q_ss0, q_ssi, q_ssr, q_nr0, q_nr10, q_nr11, q_tlS, q_tlN, q_cl, q_let, q_lef, q_ltt, q_ltf, q_eqt, q_eqf, q_add, q_mul, Nat.reduceAdd, Nat.reduceLeDiff, Nat.reduceEqDiff, eq_self, Nat.zero_le, Nat.le_refl, not_false_eq_true, not_true_eq_false, true_and, and_true, and_self, if_true, if_false, p1.o10, cl25 h25, cl26 h26, cl27 h27, cl36 h36, q_upS, q_upup, lx_up, c1, c2, c4, c5, q_m1lt, fgP0]
        exact h0 rfl
    rw [if_neg c2] at h0 h1
    have a2 := fgF_end p2 c2
    by_cases c3 : nP < fgF (lx M) p
    · rw [if_pos c3] at h0
      by_cases c4 : lx M (p + 1) = 102
      · simp (disch := first | assumption | omega | exact tX_up p2 (by decide) (by decide) | exact pl_ex (by omega)) only [e38_0, e38_1, e38_4, e38_5, e38_8, e38_9, e38_11, e38_13, e38_16, e38_17, e38_20, e38_22, e38_25, e38_26, e38_29, e38_30, e38_31, e38_34, e38_37, e38_38, e38_39, e38_42, e38_43, e38_44, e38_47, e38_50, e38_53, e38_54, e38_57, e38_58, e38_61, e38_62, e38_63, e38_66, e38_69, e38_70, e38_71, e38_74, e38_78, e38_81, e38_84, e38_87, e38_88, e38_91, e38_93, e38_96, e38_97, e38_100, e38_101, q_gv0, q_gvs, q_isI1, q_isA1, q_hs0, q_hsn, q_hsi, q_hsr, q_hss, q_inc1, List.set_cons_zero, List.set_cons_succ, ↓reduceIte, q_ss0, q_ssi, q_ssr, q_nr0, q_nr10, q_nr11, q_tlS, q_tlN, q_cl, q_let, q_lef, q_ltt, q_ltf, q_eqt, q_eqf, q_add, q_mul, Nat.reduceAdd, Nat.reduceLeDiff, Nat.reduceEqDiff, eq_self, Nat.zero_le, Nat.le_refl, not_false_eq_true, not_true_eq_false, true_and, and_true, and_self, if_true, if_false, p1.o10, p1.r1, ht.g1, cl25 h25, cl26 h26, cl27 h27, cl36 h36, q_upS, q_upup, q_upO, lx_up, c1, c2, c4, q_m1lt, fgP1, hN]
        exact h0 rfl
      by_cases c5 : lx M (p + 1) = 98
      · simp (disch := first | assumption | omega | exact tX_up p2 (by decide) (by decide) | exact pl_ex (by omega)) only [e38_0, e38_1, e38_4, e38_5, e38_8, e38_9, e38_11, e38_13, e38_16, e38_17, e38_20, e38_22, e38_25, e38_26, e38_29, e38_30, e38_31, e38_34, e38_37, e38_38, e38_39, e38_42, e38_43, e38_44, e38_47, e38_50, e38_53, e38_54, e38_57, e38_58, e38_61, e38_62, e38_63, e38_66, e38_69, e38_70, e38_71, e38_74, e38_78, e38_81, e38_84, e38_87, e38_88, e38_91, e38_93, e38_96, e38_97, e38_100, e38_101, q_gv0, q_gvs, q_isI1, q_isA1, q_hs0, q_hsn, q_hsi, q_hsr, q_hss, q_inc1, List.set_cons_zero, List.set_cons_succ, ↓reduceIte, q_ss0, q_ssi, q_ssr, q_nr0, q_nr10, q_nr11, q_tlS, q_tlN, q_cl, q_let, q_lef, q_ltt, q_ltf, q_eqt, q_eqf, q_add, q_mul, Nat.reduceAdd, Nat.reduceLeDiff, Nat.reduceEqDiff, eq_self, Nat.zero_le, Nat.le_refl, not_false_eq_true, not_true_eq_false, true_and, and_true, and_self, if_true, if_false, p1.o10, p1.r1, ht.g1, cl25 h25, cl26 h26, cl27 h27, cl36 h36, q_upS, q_upup, q_upO, lx_up, c1, c2, c4, c5, q_m1lt, fgP1, hN]
        exact h0 rfl
      · simp (disch := first | assumption | omega | exact tX_up p2 (by decide) (by decide) | exact pl_ex (by omega)) only [e38_0, e38_1, e38_4, e38_5, e38_8, e38_9, e38_11, e38_13, e38_16, e38_17, e38_20, e38_22, e38_25, e38_26, e38_29, e38_30, e38_31, e38_34, e38_37, e38_38, e38_39, e38_42, e38_43, e38_44, e38_47, e38_50, e38_53, e38_54, e38_57, e38_58, e38_61, e38_62, e38_63, e38_66, e38_69, e38_70, e38_71, e38_74, e38_78, e38_81, e38_84, e38_87, e38_88, e38_91, e38_93, e38_96, e38_97, e38_100, e38_101, q_gv0, q_gvs, q_isI1, q_isA1, q_hs0, q_hsn, q_hsi, q_hsr, q_hss, q_inc1, List.set_cons_zero, List.set_cons_succ, ↓reduceIte, q_ss0, q_ssi, q_ssr, q_nr0, q_nr10, q_nr11, q_tlS, q_tlN, q_cl, q_let, q_lef, q_ltt, q_ltf, q_eqt, q_eqf, q_add, q_mul, Nat.reduceAdd, Nat.reduceLeDiff, Nat.reduceEqDiff, eq_self, Nat.zero_le, Nat.le_refl, not_false_eq_true, not_true_eq_false, true_and, and_true, and_self, if_true, if_false, p1.o10, p1.r1, ht.g1, cl25 h25, cl26 h26, cl27 h27, cl36 h36, q_upS, q_upup, q_upO, lx_up, c1, c2, c4, c5, q_m1lt, fgP1, hN]
        exact h0 rfl
    rw [if_neg c3] at h0 h1
    have hk2 : ∃ n, n < 9 ∧ mv_up M 10 2 (nI (p + 1 + 1)) 11 2 = nI n := ⟨k, by omega, by rw [q_upO (by decide)]; exact hK⟩
    have k8 : ¬ k = 8 := by omega
    have q6 : fgF (lx M) p - 1 < 6 := by omega
    by_cases c4 : lx M (p + 1) = 102
    · rw [if_pos c4] at h0 h1
      have n1 : nxF (lx M) (p + 1) = p + 1 + 1 := nxF1 c4 (by decide)
      simp (disch := first | assumption | omega | exact tX_up p2 (by decide) (by decide) | exact pl_ex (by omega)) only [e38_0, e38_1, e38_4, e38_5, e38_8, e38_9, e38_11, e38_13, e38_16, e38_17, e38_20, e38_22, e38_25, e38_26, e38_29, e38_30, e38_31, e38_34, e38_37, e38_38, e38_39, e38_42, e38_43, e38_44, e38_47, e38_50, e38_53, e38_54, e38_57, e38_58, e38_61, e38_62, e38_63, e38_66, e38_69, e38_70, e38_71, e38_74, e38_78, e38_81, e38_84, e38_87, e38_88, e38_91, e38_93, e38_96, e38_97, e38_100, e38_101, q_gv0, q_gvs, q_isI1, q_isA1, q_hs0, q_hsn, q_hsi, q_hsr, q_hss, q_inc1, List.set_cons_zero, List.set_cons_succ, ↓reduceIte, q_ss0, q_ssi, q_ssr, q_nr0, q_nr10, q_nr11, q_tlS, q_tlN, q_cl, q_let, q_lef, q_ltt, q_ltf, q_eqt, q_eqf, q_add, q_mul, Nat.reduceAdd, Nat.reduceLeDiff, Nat.reduceEqDiff, eq_self, Nat.zero_le, Nat.le_refl, not_false_eq_true, not_true_eq_false, true_and, and_true, and_self, if_true, if_false, p1.o10, p1.r1, ht.g1, ht.o, cl25 h25, cl26 h26, cl27 h27, cl36 h36, cl37 h37, q_upS, q_upup, q_upO, lx_up, c1, c2, c4, q_m1lt, fgP1, hN, hK, n1, k8, q_pl]
      exact lp38 h25 h26 h27 h36 h37 p1 hP6 n (k + 1) (p + 1 + 1) _ _ _ (by omega) (by omega) (tX_up (tX_up p2 (by decide) (by decide)) (by decide) (by decide)) (by rw [lx_up (by decide) (by decide), lx_up (by decide) (by decide)]) (by rw [q_upN (by decide), q_upO (by decide)]; exact hN) q_upS h0 h1
    rw [if_neg c4] at h0 h1
    by_cases c5 : lx M (p + 1) = 98
    · rw [if_pos c5] at h0 h1
      have n1 : nxF (lx M) (p + 1) = p + 1 + 1 := nxF1 c5 (by decide)
      simp (disch := first | assumption | omega | exact tX_up p2 (by decide) (by decide) | exact pl_ex (by omega)) only [e38_0, e38_1, e38_4, e38_5, e38_8, e38_9, e38_11, e38_13, e38_16, e38_17, e38_20, e38_22, e38_25, e38_26, e38_29, e38_30, e38_31, e38_34, e38_37, e38_38, e38_39, e38_42, e38_43, e38_44, e38_47, e38_50, e38_53, e38_54, e38_57, e38_58, e38_61, e38_62, e38_63, e38_66, e38_69, e38_70, e38_71, e38_74, e38_78, e38_81, e38_84, e38_87, e38_88, e38_91, e38_93, e38_96, e38_97, e38_100, e38_101, q_gv0, q_gvs, q_isI1, q_isA1, q_hs0, q_hsn, q_hsi, q_hsr, q_hss, q_inc1, List.set_cons_zero, List.set_cons_succ, ↓reduceIte, q_ss0, q_ssi, q_ssr, q_nr0, q_nr10, q_nr11, q_tlS, q_tlN, q_cl, q_let, q_lef, q_ltt, q_ltf, q_eqt, q_eqf, q_add, q_mul, Nat.reduceAdd, Nat.reduceLeDiff, Nat.reduceEqDiff, eq_self, Nat.zero_le, Nat.le_refl, not_false_eq_true, not_true_eq_false, true_and, and_true, and_self, if_true, if_false, p1.o10, p1.r1, ht.g1, ht.o, cl25 h25, cl26 h26, cl27 h27, cl36 h36, cl37 h37, q_upS, q_upup, q_upO, lx_up, c1, c2, c4, c5, q_m1lt, fgP1, hN, hK, n1, k8, q_pl]
      exact lp38 h25 h26 h27 h36 h37 p1 hP6 n (k + 1) (p + 1 + 1) _ _ _ (by omega) (by omega) (tX_up (tX_up p2 (by decide) (by decide)) (by decide) (by decide)) (by rw [lx_up (by decide) (by decide), lx_up (by decide) (by decide)]) (by rw [q_upN (by decide), q_upO (by decide)]; exact hN) q_upS h0 h1
    · rw [if_neg c5] at h0 h1
      simp (disch := first | assumption | omega | exact tX_up p2 (by decide) (by decide) | exact pl_ex (by omega)) only [e38_0, e38_1, e38_4, e38_5, e38_8, e38_9, e38_11, e38_13, e38_16, e38_17, e38_20, e38_22, e38_25, e38_26, e38_29, e38_30, e38_31, e38_34, e38_37, e38_38, e38_39, e38_42, e38_43, e38_44, e38_47, e38_50, e38_53, e38_54, e38_57, e38_58, e38_61, e38_62, e38_63, e38_66, e38_69, e38_70, e38_71, e38_74, e38_78, e38_81, e38_84, e38_87, e38_88, e38_91, e38_93, e38_96, e38_97, e38_100, e38_101, q_gv0, q_gvs, q_isI1, q_isA1, q_hs0, q_hsn, q_hsi, q_hsr, q_hss, q_inc1, List.set_cons_zero, List.set_cons_succ, ↓reduceIte, q_ss0, q_ssi, q_ssr, q_nr0, q_nr10, q_nr11, q_tlS, q_tlN, q_cl, q_let, q_lef, q_ltt, q_ltf, q_eqt, q_eqf, q_add, q_mul, Nat.reduceAdd, Nat.reduceLeDiff, Nat.reduceEqDiff, eq_self, Nat.zero_le, Nat.le_refl, not_false_eq_true, not_true_eq_false, true_and, and_true, and_self, if_true, if_false, p1.o10, p1.r1, ht.g1, ht.o, cl25 h25, cl26 h26, cl27 h27, cl36 h36, cl37 h37, q_upS, q_upup, q_upO, lx_up, c1, c2, c4, c5, q_m1lt, fgP1, hN, hK, q_pl]
      exact h0 rfl
theorem drF_01 (T : Nat → Nat) (nP : Nat) : ∀ n k p M, (drF T nP n k p M).1 = 0 ∨ (drF T nP n k p M).1 = 1
  | 0, k, p, M => Or.inr rfl
  | n + 1, k, p, M => by
    unfold drF
    split
    · exact Or.inr rfl
    split
    · exact Or.inl rfl
    split
    · exact Or.inl rfl
    split
    · exact drF_01 T nP n _ _ _
    split
    · exact drF_01 T nP n _ _ _
    · exact Or.inl rfl
def drR (M : mv_Mem) : Nat × Nat × Nat × mv_Mem := drF (lx M) (M 11 1).toNatClampNeg 8 0 (M 10 2).toNatClampNeg (mv_up M 11 2 (nI 0))
def r38 (M : mv_Mem) : Nat := if (drR M).1 = 0 then 0 else if (drR M).2.2.1 = 0 then 0 else if lx M (drR M).2.1 = 59 then 1 else 0
def p38 (M : mv_Mem) : Nat := if (drR M).1 = 0 then (drR M).2.1 else if (drR M).2.2.1 = 0 then (drR M).2.1 else nxF (lx M) (drR M).2.1
def m38 (M : mv_Mem) : mv_Mem := mv_up (drR M).2.2.2 10 2 (nI (p38 M))
def sp38 : mv_Sp := fun As sh M Q => As = [.ref 10] ∧ ((oX sh) ∧ (tX M) ∧ (∃ p, p < 201 ∧ M 10 2 = nI p) ∧ (∃ n, n < 7 ∧ M 11 1 = nI n)) ∧ Q (some (.int (nI (r38 M)))) (sh) (m38 M)
theorem cl38 {S : Nat → mv_Sp} (hS : S 38 = sp38) {sh : mv_Shp} {M : mv_Mem}  (p1 : oX sh) (p2 : tX M) (p3 : ∃ p, p < 201 ∧ M 10 2 = nI p) (p4 : ∃ n, n < 7 ∧ M 11 1 = nI n) {K : mv_Kt} {pc : Nat} {L : mv_Loc} {st : List Value} {cc_ ss_ : Nat} : mv_kal S 38 [.ref 10] sh M K pc L st cc_ ss_ = K pc L ((some (.int (nI (r38 M))) : Option Value).toList ++ st) (sh) (m38 M) cc_ ss_ := by
  refine q_kal (fun F => q_cali (fun Q => ?_))
  rw [hS]
  constructor
  · rintro ⟨hE, ⟨zp1, zp2, zp3, zp4⟩, hQ⟩
    exact hQ
  · intro hQ
    exact ⟨rfl, ⟨p1, p2, p3, p4⟩, hQ⟩
theorem ct38 {S : Nat → mv_Sp} (h25 : S 25 = sp25) (h26 : S 26 = sp26) (h27 : S 27 = sp27) (h36 : S 36 = sp36) (h37 : S 37 = sp37) : ∀ As sh M P, sp38 As sh M P → (mv_al0 As).length ≤ 4 ∧ mr38 S P 0 (mv_ent As 4) [] sh M 0 0 := by
  rintro As sh M P ⟨rfl, ⟨p1, p2, p3, p4⟩, hQ⟩
  refine ⟨Nat.le_of_ble_eq_true rfl, ?_⟩
  show mr38 S P 0 [some (.ref 10), none, none, none] [] sh M 0 0
  obtain ⟨p, hp, hP⟩ := id p3
  obtain ⟨nP, hnP, hNP⟩ := id p4
  unfold r38 m38 p38 drR at hQ
  rw [hP, hNP, q_cl (show p < 2147483648 by omega), q_cl (show nP < 2147483648 by omega)] at hQ
  have ht := p1.told
  simp (disch := first | assumption | omega | exact tX_up p2 (by decide) (by decide) | exact pl_ex (by omega)) only [e38_0, e38_1, e38_4, e38_5, e38_8, e38_9, q_gv0, q_gvs, q_isI1, q_isA1, q_hs0, q_hsn, q_hsi, q_hsr, q_hss, q_inc1, List.set_cons_zero, List.set_cons_succ, ↓reduceIte, q_ss0, q_ssi, q_ssr, q_nr0, q_nr10, q_nr11, q_tlS, q_tlN, q_cl, q_let, q_lef, q_ltt, q_ltf, q_eqt, q_eqf, q_add, q_mul, Nat.reduceAdd, Nat.reduceLeDiff, Nat.reduceEqDiff, eq_self, Nat.zero_le, Nat.le_refl, not_false_eq_true, not_true_eq_false, true_and, and_true, and_self, if_true, if_false, p1.r1, ht.p2]
  have e0 : mv_up M 11 2 (nI 0) = mv_up (mv_up M 11 2 (nI 0)) 10 2 (nI p) := (up_id (by rw [q_upO (by decide)]; exact hP)).symm
  rw [e0]
  refine lp38 h25 h26 h27 h36 h37 p1 (show nP ≤ 6 by omega) 8 0 p (mv_up M 11 2 (nI 0)) none none rfl hp (tX_up p2 (by decide) (by decide)) (lx_up (by decide) (by decide)) (by rw [q_upN (by decide)]; exact hNP) q_upS (fun hz => ?_) (fun hz x1 x2 x3 hb hc ht2 hl2 hk2 => ?_)
  · rw [if_pos hz, if_pos hz] at hQ
    exact hQ
  · have hz0 : ¬ (drF (lx M) nP 8 0 p (mv_up M 11 2 (nI 0))).1 = 0 := by rw [hz]; decide
    rw [if_neg hz0, if_neg hz0] at hQ
    generalize drF (lx M) nP 8 0 p (mv_up M 11 2 (nI 0)) = D at hQ hb hc ht2 hl2 hk2 ⊢
    obtain ⟨d1, d2, d3, d4⟩ := D
    dsimp only at hQ hb hc ht2 hl2 hk2 ⊢
    by_cases c1 : d3 = 0
    · subst c1
      rw [if_pos rfl, if_pos rfl] at hQ
      simp (disch := first | assumption | omega) only [e38_0, e38_1, e38_4, e38_5, e38_8, e38_9, e38_11, e38_13, e38_16, e38_17, e38_20, e38_22, e38_25, e38_26, e38_29, e38_30, e38_31, e38_34, e38_37, e38_38, e38_39, e38_42, e38_43, e38_44, e38_47, e38_50, e38_53, e38_54, e38_57, e38_58, e38_61, e38_62, e38_63, e38_66, e38_69, e38_70, e38_71, e38_74, e38_77, e38_78, e38_81, e38_84, e38_87, e38_88, e38_91, e38_93, e38_96, e38_97, e38_100, e38_101, q_gv0, q_gvs, q_isI1, q_isA1, q_hs0, q_hsn, q_hsi, q_hsr, q_hss, q_inc1, List.set_cons_zero, List.set_cons_succ, ↓reduceIte, q_ss0, q_ssi, q_ssr, q_nr0, q_nr10, q_nr11, q_tlS, q_tlN, q_cl, q_let, q_lef, q_ltt, q_ltf, q_eqt, q_eqf, q_add, q_mul, Nat.reduceAdd, Nat.reduceLeDiff, Nat.reduceEqDiff, eq_self, Nat.zero_le, Nat.le_refl, not_false_eq_true, not_true_eq_false, true_and, and_true, and_self, if_true, if_false, p1.o10, p1.r1, ht.g2, q_upO, hk2]
      exact hQ
    · rw [if_neg c1, if_neg c1] at hQ
      have l1 := lx_lt p2 d2
      by_cases c2 : lx M d2 = 59
      · rw [if_pos c2] at hQ
        simp (disch := first | assumption | omega | exact tX_up ht2 (by decide) (by decide) | exact pl_ex (by omega)) only [e38_0, e38_1, e38_4, e38_5, e38_8, e38_9, e38_11, e38_13, e38_16, e38_17, e38_20, e38_22, e38_25, e38_26, e38_29, e38_30, e38_31, e38_34, e38_37, e38_38, e38_39, e38_42, e38_43, e38_44, e38_47, e38_50, e38_53, e38_54, e38_57, e38_58, e38_61, e38_62, e38_63, e38_66, e38_69, e38_70, e38_71, e38_74, e38_77, e38_78, e38_81, e38_84, e38_87, e38_88, e38_91, e38_93, e38_96, e38_97, e38_100, e38_101, q_gv0, q_gvs, q_isI1, q_isA1, q_hs0, q_hsn, q_hsi, q_hsr, q_hss, q_inc1, List.set_cons_zero, List.set_cons_succ, ↓reduceIte, q_ss0, q_ssi, q_ssr, q_nr0, q_nr10, q_nr11, q_tlS, q_tlN, q_cl, q_let, q_lef, q_ltt, q_ltf, q_eqt, q_eqf, q_add, q_mul, Nat.reduceAdd, Nat.reduceLeDiff, Nat.reduceEqDiff, eq_self, Nat.zero_le, Nat.le_refl, not_false_eq_true, not_true_eq_false, true_and, and_true, and_self, if_true, if_false, p1.o10, p1.r1, ht.g2, q_upO, hk2, cl26 h26, q_upS, q_upup, lx_up, hl2, c2]
        exact hQ
      · rw [if_neg c2] at hQ
        simp (disch := first | assumption | omega | exact tX_up ht2 (by decide) (by decide) | exact pl_ex (by omega)) only [e38_0, e38_1, e38_4, e38_5, e38_8, e38_9, e38_11, e38_13, e38_16, e38_17, e38_20, e38_22, e38_25, e38_26, e38_29, e38_30, e38_31, e38_34, e38_37, e38_38, e38_39, e38_42, e38_43, e38_44, e38_47, e38_50, e38_53, e38_54, e38_57, e38_58, e38_61, e38_62, e38_63, e38_66, e38_69, e38_70, e38_71, e38_74, e38_77, e38_78, e38_81, e38_84, e38_87, e38_88, e38_91, e38_93, e38_96, e38_97, e38_100, e38_101, q_gv0, q_gvs, q_isI1, q_isA1, q_hs0, q_hsn, q_hsi, q_hsr, q_hss, q_inc1, List.set_cons_zero, List.set_cons_succ, ↓reduceIte, q_ss0, q_ssi, q_ssr, q_nr0, q_nr10, q_nr11, q_tlS, q_tlN, q_cl, q_let, q_lef, q_ltt, q_ltf, q_eqt, q_eqf, q_add, q_mul, Nat.reduceAdd, Nat.reduceLeDiff, Nat.reduceEqDiff, eq_self, Nat.zero_le, Nat.le_refl, not_false_eq_true, not_true_eq_false, true_and, and_true, and_self, if_true, if_false, p1.o10, p1.r1, ht.g2, q_upO, hk2, cl26 h26, q_upS, q_upup, lx_up, hl2, c2]
        exact hQ

/-! what an item's readers answer, and leave -/
def r32 (M : mv_Mem) : Nat := if tbB (lx M) (M 10 2).toNatClampNeg = 1 ∧ ¬ (M 11 0).toNatClampNeg = 6 then 1 else 0
def m32 (M : mv_Mem) : mv_Mem := if tbB (lx M) (M 10 2).toNatClampNeg = 1 ∧ ¬ (M 11 0).toNatClampNeg = 6 then mv_up (atM M 11 (M 11 0).toNatClampNeg (nI (nbF (lx M) (M 10 2).toNatClampNeg - 1)) (nI (nbF (lx M) (nbP (lx M) (M 10 2).toNatClampNeg + 1) - 1)) (tbR (lx M) (M 10 2).toNatClampNeg)) 10 2 (nI (tbP (lx M) (M 10 2).toNatClampNeg)) else mv_up M 10 2 (nI (tbP (lx M) (M 10 2).toNatClampNeg))
def r34 (M : mv_Mem) : Nat := if pkC (lx M) (M 11 0).toNatClampNeg (M 10 2).toNatClampNeg = 1 ∧ ¬ (M 11 1).toNatClampNeg = 6 then 1 else 0
def m34 (M : mv_Mem) : mv_Mem := if pkC (lx M) (M 11 0).toNatClampNeg (M 10 2).toNatClampNeg = 1 ∧ ¬ (M 11 1).toNatClampNeg = 6 then mv_up (mv_up (mv_up M 16 (M 11 1).toNatClampNeg (pkF (lx M) (M 11 0).toNatClampNeg 6 (M 10 2).toNatClampNeg (nI 0)).2.2) 11 1 (nI ((M 11 1).toNatClampNeg + 1))) 10 2 (nI (pkP (lx M) (M 11 0).toNatClampNeg (M 10 2).toNatClampNeg)) else mv_up M 10 2 (nI (pkP (lx M) (M 11 0).toNatClampNeg (M 10 2).toNatClampNeg))
def r35 (M : mv_Mem) : Nat := lmB (lx M) (M 10 2).toNatClampNeg
def m35 (M : mv_Mem) : mv_Mem := if lmB (lx M) (M 10 2).toNatClampNeg = 1 then mv_up (mv_up M 11 3 (nI (nbF (lx M) (M 10 2).toNatClampNeg - 1))) 10 2 (nI (lmP (lx M) (M 10 2).toNatClampNeg)) else mv_up M 10 2 (nI (lmP (lx M) (M 10 2).toNatClampNeg))
theorem cr32 {S : Nat → mv_Sp} (h : S 32 = sp32) {sh : mv_Shp} {M : mv_Mem} {K : mv_Kt} {pc : Nat} {L : mv_Loc} {st : List Value} {c s : Nat} (p1 : oX sh) (p2 : tX M) (p3 : ∃ p, p < 201 ∧ M 10 2 = nI p) (p4 : ∃ n, n < 7 ∧ M 11 0 = nI n) : mv_kal S 32 [.ref 10] sh M K pc L st c s = K pc L ((some (.int (nI (r32 M)))).toList ++ st) sh (m32 M) c s := cl32 h p1 p2 p3 p4
theorem cr34 {S : Nat → mv_Sp} (h : S 34 = sp34) {sh : mv_Shp} {M : mv_Mem} {K : mv_Kt} {pc : Nat} {L : mv_Loc} {st : List Value} {c s : Nat} (p1 : oX sh) (p2 : tX M) (p3 : ∃ p, p < 201 ∧ M 10 2 = nI p) (p4 : ∃ n, n < 7 ∧ M 11 0 = nI n) (p5 : ∃ n, n < 7 ∧ M 11 1 = nI n) : mv_kal S 34 [.ref 10] sh M K pc L st c s = K pc L ((some (.int (nI (r34 M)))).toList ++ st) sh (m34 M) c s := cl34 h p1 p2 p3 p4 p5
theorem cr35 {S : Nat → mv_Sp} (h : S 35 = sp35) {sh : mv_Shp} {M : mv_Mem} {K : mv_Kt} {pc : Nat} {L : mv_Loc} {st : List Value} {c s : Nat} (p1 : oX sh) (p2 : tX M) (p3 : ∃ p, p < 201 ∧ M 10 2 = nI p) : mv_kal S 35 [.ref 10] sh M K pc L st c s = K pc L ((some (.int (nI (r35 M)))).toList ++ st) sh (m35 M) c s := cl35 h p1 p2 p3
theorem r32_01 (M : mv_Mem) : r32 M = 0 ∨ r32 M = 1 := by unfold r32; split <;> simp
theorem r34_01 (M : mv_Mem) : r34 M = 0 ∨ r34 M = 1 := by unfold r34; split <;> simp
theorem r35_01 (M : mv_Mem) : r35 M = 0 ∨ r35 M = 1 := by
  unfold r35 lmB
  split
  · simp
  split
  · simp
  split <;> simp
theorem r38_01 (M : mv_Mem) : r38 M = 0 ∨ r38 M = 1 := by
  unfold r38
  split
  · simp
  split
  · simp
  split <;> simp
/-- the memory behind an item's letter -/
def fwM (M : mv_Mem) : mv_Mem := mv_up M 10 2 (nI (nxF (lx M) (M 10 2).toNatClampNeg))
def r39 (M : mv_Mem) : Nat := if lx M (M 10 2).toNatClampNeg = 116 then r32 (fwM M) else if lx M (M 10 2).toNatClampNeg = 112 then r34 (fwM M) else if lx M (M 10 2).toNatClampNeg = 108 then r35 (fwM M) else if lx M (M 10 2).toNatClampNeg = 100 then r38 (fwM M) else 0
def m39 (M : mv_Mem) : mv_Mem := if lx M (M 10 2).toNatClampNeg = 116 then m32 (fwM M) else if lx M (M 10 2).toNatClampNeg = 112 then m34 (fwM M) else if lx M (M 10 2).toNatClampNeg = 108 then m35 (fwM M) else if lx M (M 10 2).toNatClampNeg = 100 then m38 (fwM M) else fwM M
theorem q_nrB {n : Nat} (h : n = 0 ∨ n = 1) : mv_nr 1 (nI n) = True := by
  rcases h with rfl | rfl
  · exact q_nr10
  · exact q_nr11
def sp39 : mv_Sp := fun As sh M Q => As = [.ref 10] ∧ ((oX sh) ∧ (tX M) ∧ (∃ p, p < 201 ∧ M 10 2 = nI p) ∧ (∃ n, n < 7 ∧ M 11 0 = nI n) ∧ (∃ n, n < 7 ∧ M 11 1 = nI n)) ∧ Q (some (.int (nI (r39 M)))) (sh) (m39 M)
theorem cl39 {S : Nat → mv_Sp} (hS : S 39 = sp39) {sh : mv_Shp} {M : mv_Mem}  (p1 : oX sh) (p2 : tX M) (p3 : ∃ p, p < 201 ∧ M 10 2 = nI p) (p4 : ∃ n, n < 7 ∧ M 11 0 = nI n) (p5 : ∃ n, n < 7 ∧ M 11 1 = nI n) {K : mv_Kt} {pc : Nat} {L : mv_Loc} {st : List Value} {cc_ ss_ : Nat} : mv_kal S 39 [.ref 10] sh M K pc L st cc_ ss_ = K pc L ((some (.int (nI (r39 M))) : Option Value).toList ++ st) (sh) (m39 M) cc_ ss_ := by
  refine q_kal (fun F => q_cali (fun Q => ?_))
  rw [hS]
  constructor
  · rintro ⟨hE, ⟨zp1, zp2, zp3, zp4, zp5⟩, hQ⟩
    exact hQ
  · intro hQ
    exact ⟨rfl, ⟨p1, p2, p3, p4, p5⟩, hQ⟩
theorem ct39 {S : Nat → mv_Sp} (h26 : S 26 = sp26) (h32 : S 32 = sp32) (h34 : S 34 = sp34) (h35 : S 35 = sp35) (h38 : S 38 = sp38) : ∀ As sh M P, sp39 As sh M P → (mv_al0 As).length ≤ 1 ∧ mr39 S P 0 (mv_ent As 1) [] sh M 0 0 := by
  rintro As sh M P ⟨rfl, ⟨p1, p2, p3, p4, p5⟩, hQ⟩
  refine ⟨Nat.le_of_ble_eq_true rfl, ?_⟩
  show mr39 S P 0 [some (.ref 10)] [] sh M 0 0
  obtain ⟨p, hp, hP⟩ := id p3
  have l1 := lx_lt p2 (M 10 2).toNatClampNeg
  have x3 : ∃ p, p < 201 ∧ fwM M 10 2 = nI p := ⟨_, nxF_lt p2 (by rw [hP, q_cl (by omega)]; exact hp), q_upS⟩
  have x4 : ∃ n, n < 7 ∧ fwM M 11 0 = nI n := up_ex (by decide) p4
  have x5 : ∃ n, n < 7 ∧ fwM M 11 1 = nI n := up_ex (by decide) p5
  have x2 : tX (fwM M) := tX_up p2 (by decide) (by decide)
  have y32 := r32_01 (fwM M)
  have y34 := r34_01 (fwM M)
  have y35 := r35_01 (fwM M)
  have y38 := r38_01 (fwM M)
  have e : mv_up M 10 2 (nI (nxF (lx M) (M 10 2).toNatClampNeg)) = fwM M := rfl
  unfold r39 m39 at hQ
  by_cases c1 : lx M (M 10 2).toNatClampNeg = 116
  · rw [if_pos c1, if_pos c1] at hQ
    simp (disch := first | assumption | omega) only [e39_0, e39_1, e39_4, e39_48, e39_49, e39_52, e39_53, e39_54, e39_57, e39_58, e39_59, e39_62, e39_63, e39_64, e39_67, e39_68, e39_69, q_gv0, q_gvs, q_isI1, q_isA1, q_hs0, q_hsn, q_hsi, q_hsr, q_hss, q_inc1, List.set_cons_zero, List.set_cons_succ, ↓reduceIte, q_ss0, q_ssi, q_ssr, q_nr0, q_nr10, q_nr11, q_tlS, q_tlN, q_cl, q_let, q_lef, q_ltt, q_ltf, q_eqt, q_eqf, q_add, q_mul, Nat.reduceAdd, Nat.reduceLeDiff, Nat.reduceEqDiff, eq_self, Nat.zero_le, Nat.le_refl, not_false_eq_true, not_true_eq_false, true_and, and_true, and_self, if_true, if_false, p1.o10, cl26 h26, cr32 h32, cr34 h34, cr35 h35, cl38 h38, e, q_nrB, c1]
    exact hQ
  rw [if_neg c1, if_neg c1] at hQ
  by_cases c2 : lx M (M 10 2).toNatClampNeg = 112
  · rw [if_pos c2, if_pos c2] at hQ
    simp (disch := first | assumption | omega) only [e39_0, e39_1, e39_4, e39_48, e39_49, e39_52, e39_53, e39_54, e39_57, e39_58, e39_59, e39_62, e39_63, e39_64, e39_67, e39_68, e39_69, q_gv0, q_gvs, q_isI1, q_isA1, q_hs0, q_hsn, q_hsi, q_hsr, q_hss, q_inc1, List.set_cons_zero, List.set_cons_succ, ↓reduceIte, q_ss0, q_ssi, q_ssr, q_nr0, q_nr10, q_nr11, q_tlS, q_tlN, q_cl, q_let, q_lef, q_ltt, q_ltf, q_eqt, q_eqf, q_add, q_mul, Nat.reduceAdd, Nat.reduceLeDiff, Nat.reduceEqDiff, eq_self, Nat.zero_le, Nat.le_refl, not_false_eq_true, not_true_eq_false, true_and, and_true, and_self, if_true, if_false, p1.o10, cl26 h26, cr32 h32, cr34 h34, cr35 h35, cl38 h38, e, q_nrB, c2]
    exact hQ
  rw [if_neg c2, if_neg c2] at hQ
  by_cases c3 : lx M (M 10 2).toNatClampNeg = 108
  · rw [if_pos c3, if_pos c3] at hQ
    simp (disch := first | assumption | omega) only [e39_0, e39_1, e39_4, e39_48, e39_49, e39_52, e39_53, e39_54, e39_57, e39_58, e39_59, e39_62, e39_63, e39_64, e39_67, e39_68, e39_69, q_gv0, q_gvs, q_isI1, q_isA1, q_hs0, q_hsn, q_hsi, q_hsr, q_hss, q_inc1, List.set_cons_zero, List.set_cons_succ, ↓reduceIte, q_ss0, q_ssi, q_ssr, q_nr0, q_nr10, q_nr11, q_tlS, q_tlN, q_cl, q_let, q_lef, q_ltt, q_ltf, q_eqt, q_eqf, q_add, q_mul, Nat.reduceAdd, Nat.reduceLeDiff, Nat.reduceEqDiff, eq_self, Nat.zero_le, Nat.le_refl, not_false_eq_true, not_true_eq_false, true_and, and_true, and_self, if_true, if_false, p1.o10, cl26 h26, cr32 h32, cr34 h34, cr35 h35, cl38 h38, e, q_nrB, c3]
    exact hQ
  rw [if_neg c3, if_neg c3] at hQ
  by_cases c4 : lx M (M 10 2).toNatClampNeg = 100
  · rw [if_pos c4, if_pos c4] at hQ
    simp (disch := first | assumption | omega) only [e39_0, e39_1, e39_4, e39_48, e39_49, e39_52, e39_53, e39_54, e39_57, e39_58, e39_59, e39_62, e39_63, e39_64, e39_67, e39_68, e39_69, q_gv0, q_gvs, q_isI1, q_isA1, q_hs0, q_hsn, q_hsi, q_hsr, q_hss, q_inc1, List.set_cons_zero, List.set_cons_succ, ↓reduceIte, q_ss0, q_ssi, q_ssr, q_nr0, q_nr10, q_nr11, q_tlS, q_tlN, q_cl, q_let, q_lef, q_ltt, q_ltf, q_eqt, q_eqf, q_add, q_mul, Nat.reduceAdd, Nat.reduceLeDiff, Nat.reduceEqDiff, eq_self, Nat.zero_le, Nat.le_refl, not_false_eq_true, not_true_eq_false, true_and, and_true, and_self, if_true, if_false, p1.o10, cl26 h26, cr32 h32, cr34 h34, cr35 h35, cl38 h38, e, q_nrB, c4]
    exact hQ
  rw [if_neg c4, if_neg c4] at hQ
  simp (disch := first | assumption | omega) only [e39_0, e39_1, e39_4, e39_48, e39_49, e39_52, e39_53, e39_54, e39_57, e39_58, e39_59, e39_62, e39_63, e39_64, e39_67, e39_68, e39_69, q_gv0, q_gvs, q_isI1, q_isA1, q_hs0, q_hsn, q_hsi, q_hsr, q_hss, q_inc1, List.set_cons_zero, List.set_cons_succ, ↓reduceIte, q_ss0, q_ssi, q_ssr, q_nr0, q_nr10, q_nr11, q_tlS, q_tlN, q_cl, q_let, q_lef, q_ltt, q_ltf, q_eqt, q_eqf, q_add, q_mul, Nat.reduceAdd, Nat.reduceLeDiff, Nat.reduceEqDiff, eq_self, Nat.zero_le, Nat.le_refl, not_false_eq_true, not_true_eq_false, true_and, and_true, and_self, if_true, if_false, p1.o10, cl26 h26, e, c1, c2, c3, c4]
  exact hQ
