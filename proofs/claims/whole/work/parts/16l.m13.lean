/-! the model: rows, tablets, tops; turned, woven -/
theorem in_1 (y : Int32) : nI (inN y (nI 0) (nI 1)) = if y < nI 0 then nI 0 else if nI 1 < y then nI 0 else nI 1 := by
  unfold inN
  split
  · rfl
  · split <;> rfl
def sp203 : mv_Sp := fun As sh M Q => ∃ (x : Int32) (y : Int32), As = [.ref 0, .int x, .int y] ∧ ((oM sh) ∧ (∃ n, n < 25 ∧ M 1 30 = nI n)) ∧ Q (some (.int (if x < nI 0 then Int32.ofInt (-1) else if y < nI 0 then Int32.ofInt (-1) else if nI 1 < y then Int32.ofInt (-1) else if M 1 30 ≤ x then Int32.ofInt (-4) else if y = nI 0 then M 1 (31 + 32 * x.toNatClampNeg) else M 1 (31 + 32 * x.toNatClampNeg + 1)))) (sh) (M)
theorem cl203 {S : Nat → mv_Sp} (hS : S 203 = sp203) {sh : mv_Shp} {M : mv_Mem} {x : Int32} {y : Int32} (p1 : oM sh) (p2 : ∃ n, n < 25 ∧ M 1 30 = nI n) {K : mv_Kt} {pc : Nat} {L : mv_Loc} {st : List Value} {cc_ ss_ : Nat} : mv_kal S 203 [.ref 0, .int x, .int y] sh M K pc L st cc_ ss_ = K pc L ((some (.int (if x < nI 0 then Int32.ofInt (-1) else if y < nI 0 then Int32.ofInt (-1) else if nI 1 < y then Int32.ofInt (-1) else if M 1 30 ≤ x then Int32.ofInt (-4) else if y = nI 0 then M 1 (31 + 32 * x.toNatClampNeg) else M 1 (31 + 32 * x.toNatClampNeg + 1))) : Option Value).toList ++ st) (sh) (M) cc_ ss_ := by
  refine q_kal (fun F => q_cali (fun Q => ?_))
  rw [hS]
  constructor
  · rintro ⟨x', y', hE, ⟨zp1, zp2⟩, hQ⟩
    simp only [List.cons.injEq, Value.ref.injEq, Value.int.injEq, Value.long.injEq, and_true, true_and] at hE
    obtain ⟨rfl, rfl⟩ := hE
    exact hQ
  · intro hQ
    exact ⟨x, y, rfl, ⟨p1, p2⟩, hQ⟩
theorem ct203 {S : Nat → mv_Sp} (h144 : S 144 = sp144) : ∀ As sh M P, sp203 As sh M P → (mv_al0 As).length ≤ 3 ∧ mr203 S P 0 (mv_ent As 3) [] sh M 0 0 := by
  rintro As sh M P ⟨x, y, rfl, ⟨p1, p2⟩, hQ⟩
  refine ⟨Nat.le_of_ble_eq_true rfl, ?_⟩
  show mr203 S P 0 [some (.ref 0), some (.int x), some (.int y)] [] sh M 0 0
  obtain ⟨n, hn, hN⟩ := id p2
  rcases i32_c x with c1 | ⟨k, hk, rfl⟩
  · simp only [c1, if_true] at hQ
    simp (disch := first | assumption | omega) only [e203_0, e203_1, e203_4, e203_5, e203_6, e203_7, e203_8, e203_11, e203_14, e203_15, e203_16, e203_17, e203_18, e203_21, e203_23, e203_24, e203_27, e203_28, e203_31, e203_33, e203_35, e203_36, e203_37, e203_38, e203_39, e203_40, e203_41, e203_44, e203_46, q_gv0, q_gvs, q_isI1, q_isA1, q_hs0, q_hsn, q_hsi, q_hsr, q_hss, q_inc1, List.set_cons_zero, List.set_cons_succ, ↓reduceIte, q_ss0, q_ssi, q_ssr, q_nr0, q_nr10, q_nr11, q_tlS, q_tlN, q_cl, q_let, q_lef, q_ltt, q_ltf, q_eqt, q_eqf, q_add, q_mul, Nat.reduceAdd, Nat.reduceLeDiff, Nat.reduceEqDiff, eq_self, Nat.zero_le, Nat.le_refl, not_false_eq_true, not_true_eq_false, true_and, and_true, and_self, if_true, if_false, c1]
    exact hQ
  have c1 : (nI k < nI 0) = False := q_ltf (by omega) hk
  simp only [c1, if_false] at hQ
  have i1 := in_1 y
  by_cases d1 : y < nI 0
  · rw [if_pos d1] at hQ i1
    simp (disch := first | assumption | omega) only [e203_0, e203_1, e203_4, e203_5, e203_6, e203_7, e203_8, e203_11, e203_14, e203_15, e203_16, e203_17, e203_18, e203_21, e203_23, e203_24, e203_27, e203_28, e203_31, e203_33, e203_35, e203_36, e203_37, e203_38, e203_39, e203_40, e203_41, e203_44, e203_46, q_gv0, q_gvs, q_isI1, q_isA1, q_hs0, q_hsn, q_hsi, q_hsr, q_hss, q_inc1, List.set_cons_zero, List.set_cons_succ, ↓reduceIte, q_ss0, q_ssi, q_ssr, q_nr0, q_nr10, q_nr11, q_tlS, q_tlN, q_cl, q_let, q_lef, q_ltt, q_ltf, q_eqt, q_eqf, q_add, q_mul, Nat.reduceAdd, Nat.reduceLeDiff, Nat.reduceEqDiff, eq_self, Nat.zero_le, Nat.le_refl, not_false_eq_true, not_true_eq_false, true_and, and_true, and_self, if_true, if_false, q_isL1, q_lc, cr144 h144, c1, i1]
    exact hQ
  rw [if_neg d1] at hQ i1
  by_cases d2 : nI 1 < y
  · rw [if_pos d2] at hQ i1
    simp (disch := first | assumption | omega) only [e203_0, e203_1, e203_4, e203_5, e203_6, e203_7, e203_8, e203_11, e203_14, e203_15, e203_16, e203_17, e203_18, e203_21, e203_23, e203_24, e203_27, e203_28, e203_31, e203_33, e203_35, e203_36, e203_37, e203_38, e203_39, e203_40, e203_41, e203_44, e203_46, q_gv0, q_gvs, q_isI1, q_isA1, q_hs0, q_hsn, q_hsi, q_hsr, q_hss, q_inc1, List.set_cons_zero, List.set_cons_succ, ↓reduceIte, q_ss0, q_ssi, q_ssr, q_nr0, q_nr10, q_nr11, q_tlS, q_tlN, q_cl, q_let, q_lef, q_ltt, q_ltf, q_eqt, q_eqf, q_add, q_mul, Nat.reduceAdd, Nat.reduceLeDiff, Nat.reduceEqDiff, eq_self, Nat.zero_le, Nat.le_refl, not_false_eq_true, not_true_eq_false, true_and, and_true, and_self, if_true, if_false, q_isL1, q_lc, cr144 h144, c1, i1]
    exact hQ
  rw [if_neg d2] at hQ i1
  by_cases c2 : n ≤ k
  · have c3 : (nI n ≤ nI k) = True := q_let c2 hk
    simp only [hN, c3, if_true] at hQ
    simp (disch := first | assumption | omega) only [e203_0, e203_1, e203_4, e203_5, e203_6, e203_7, e203_8, e203_11, e203_14, e203_15, e203_16, e203_17, e203_18, e203_21, e203_23, e203_24, e203_27, e203_28, e203_31, e203_33, e203_35, e203_36, e203_37, e203_38, e203_39, e203_40, e203_41, e203_44, e203_46, q_gv0, q_gvs, q_isI1, q_isA1, q_hs0, q_hsn, q_hsi, q_hsr, q_hss, q_inc1, List.set_cons_zero, List.set_cons_succ, ↓reduceIte, q_ss0, q_ssi, q_ssr, q_nr0, q_nr10, q_nr11, q_tlS, q_tlN, q_cl, q_let, q_lef, q_ltt, q_ltf, q_eqt, q_eqf, q_add, q_mul, Nat.reduceAdd, Nat.reduceLeDiff, Nat.reduceEqDiff, eq_self, Nat.zero_le, Nat.le_refl, not_false_eq_true, not_true_eq_false, true_and, and_true, and_self, if_true, if_false, q_isL1, q_lc, cr144 h144, p1.g0, p1.l1, c1, i1, hN, c3]
    exact hQ
  have c3 : (nI n ≤ nI k) = False := q_lef (by omega) (by omega)
  simp only [hN, c3, if_false, q_cl hk] at hQ
  by_cases d3 : y = nI 0
  · subst d3
    rw [if_pos rfl] at hQ
    simp (disch := first | assumption | omega) only [e203_0, e203_1, e203_4, e203_5, e203_6, e203_7, e203_8, e203_11, e203_14, e203_15, e203_16, e203_17, e203_18, e203_21, e203_23, e203_24, e203_27, e203_28, e203_31, e203_33, e203_35, e203_36, e203_37, e203_38, e203_39, e203_40, e203_41, e203_44, e203_46, q_gv0, q_gvs, q_isI1, q_isA1, q_hs0, q_hsn, q_hsi, q_hsr, q_hss, q_inc1, List.set_cons_zero, List.set_cons_succ, ↓reduceIte, q_ss0, q_ssi, q_ssr, q_nr0, q_nr10, q_nr11, q_tlS, q_tlN, q_cl, q_let, q_lef, q_ltt, q_ltf, q_eqt, q_eqf, q_add, q_mul, Nat.reduceAdd, Nat.reduceLeDiff, Nat.reduceEqDiff, eq_self, Nat.zero_le, Nat.le_refl, not_false_eq_true, not_true_eq_false, true_and, and_true, and_self, if_true, if_false, q_isL1, q_lc, cr144 h144, p1.g0, p1.l1, c1, i1, hN, c3]
    exact hQ
  · rw [if_neg d3] at hQ
    rcases i32_c y with d4 | ⟨j, hj, rfl⟩
    · exact absurd d4 d1
    have : ¬ 1 < j := fun z => d2 ((nI_ltI (by omega) hj).mpr z)
    have : ¬ j = 0 := fun z => d3 (by rw [z])
    obtain rfl : j = 1 := by omega
    simp (disch := first | assumption | omega) only [e203_0, e203_1, e203_4, e203_5, e203_6, e203_7, e203_8, e203_11, e203_14, e203_15, e203_16, e203_17, e203_18, e203_21, e203_23, e203_24, e203_27, e203_28, e203_31, e203_33, e203_35, e203_36, e203_37, e203_38, e203_39, e203_40, e203_41, e203_44, e203_46, q_gv0, q_gvs, q_isI1, q_isA1, q_hs0, q_hsn, q_hsi, q_hsr, q_hss, q_inc1, List.set_cons_zero, List.set_cons_succ, ↓reduceIte, q_ss0, q_ssi, q_ssr, q_nr0, q_nr10, q_nr11, q_tlS, q_tlN, q_cl, q_let, q_lef, q_ltt, q_ltf, q_eqt, q_eqf, q_add, q_mul, Nat.reduceAdd, Nat.reduceLeDiff, Nat.reduceEqDiff, eq_self, Nat.zero_le, Nat.le_refl, not_false_eq_true, not_true_eq_false, true_and, and_true, and_self, if_true, if_false, q_isL1, q_lc, cr144 h144, p1.g0, p1.l1, c1, i1, hN, c3]
    exact hQ
def tbY (M : mv_Mem) (t : Nat) (y : Int32) : Int32 :=
  if y = nI 0 then M 2 t else if y = nI 1 then M 1 (0 + t) else if y = nI 2 then M 1 (6 + t) else if y = nI 3 then M 3 (4 * t + (M 1 (6 + t)).toNatClampNeg)
  else if y = nI 4 then M 1 (12 + t) + nI 40 else if y = nI 5 then M 1 (18 + t) else if y = nI 6 then snY M 0 t else Int32.ofInt (-1)
def sp206 : mv_Sp := fun As sh M Q => ∃ (x : Int32) (y : Int32), As = [.ref 0, .int x, .int y] ∧ ((oM sh) ∧ (∃ n, n ≤ 6 ∧ M 0 3 = nI n) ∧ (cY M 0)) ∧ Q (some (.int (if x < nI 0 then Int32.ofInt (-1) else if M 0 3 ≤ x then Int32.ofInt (-1) else tbY M x.toNatClampNeg y))) (sh) (M)
theorem cl206 {S : Nat → mv_Sp} (hS : S 206 = sp206) {sh : mv_Shp} {M : mv_Mem} {x : Int32} {y : Int32} (p1 : oM sh) (p2 : ∃ n, n ≤ 6 ∧ M 0 3 = nI n) (p3 : cY M 0) {K : mv_Kt} {pc : Nat} {L : mv_Loc} {st : List Value} {cc_ ss_ : Nat} : mv_kal S 206 [.ref 0, .int x, .int y] sh M K pc L st cc_ ss_ = K pc L ((some (.int (if x < nI 0 then Int32.ofInt (-1) else if M 0 3 ≤ x then Int32.ofInt (-1) else tbY M x.toNatClampNeg y)) : Option Value).toList ++ st) (sh) (M) cc_ ss_ := by
  refine q_kal (fun F => q_cali (fun Q => ?_))
  rw [hS]
  constructor
  · rintro ⟨x', y', hE, ⟨zp1, zp2, zp3⟩, hQ⟩
    simp only [List.cons.injEq, Value.ref.injEq, Value.int.injEq, Value.long.injEq, and_true, true_and] at hE
    obtain ⟨rfl, rfl⟩ := hE
    exact hQ
  · intro hQ
    exact ⟨x, y, rfl, ⟨p1, p2, p3⟩, hQ⟩
theorem ct206 {S : Nat → mv_Sp} (h163 : S 163 = sp163) (h181 : S 181 = sp181) : ∀ As sh M P, sp206 As sh M P → (mv_al0 As).length ≤ 3 ∧ mr206 S P 0 (mv_ent As 3) [] sh M 0 0 := by
  rintro As sh M P ⟨x, y, rfl, ⟨p1, p2, p3⟩, hQ⟩
  refine ⟨Nat.le_of_ble_eq_true rfl, ?_⟩
  show mr206 S P 0 [some (.ref 0), some (.int x), some (.int y)] [] sh M 0 0
  obtain ⟨n, hn, hN⟩ := id p2
  rcases i32_c x with c1 | ⟨k, hk, rfl⟩
  · simp only [c1, if_true] at hQ
    simp (disch := first | assumption | omega) only [e206_0, e206_1, e206_2, e206_5, e206_8, e206_9, e206_10, e206_11, e206_52, e206_53, e206_56, e206_57, e206_58, e206_59, e206_60, e206_63, e206_64, e206_65, e206_66, e206_67, e206_68, e206_69, e206_72, e206_74, e206_75, e206_76, e206_77, e206_78, e206_79, e206_82, e206_83, e206_84, e206_85, e206_86, e206_89, e206_91, e206_92, e206_93, e206_94, e206_95, e206_96, e206_97, e206_98, e206_101, e206_103, e206_104, e206_105, e206_106, e206_108, e206_109, e206_110, e206_111, e206_114, e206_116, e206_117, e206_118, e206_119, e206_120, e206_121, e206_122, e206_123, e206_126, e206_127, e206_128, q_gv0, q_gvs, q_isI1, q_isA1, q_hs0, q_hsn, q_hsi, q_hsr, q_hss, q_inc1, List.set_cons_zero, List.set_cons_succ, ↓reduceIte, q_ss0, q_ssi, q_ssr, q_nr0, q_nr10, q_nr11, q_tlS, q_tlN, q_cl, q_let, q_lef, q_ltt, q_ltf, q_eqt, q_eqf, q_add, q_mul, Nat.reduceAdd, Nat.reduceLeDiff, Nat.reduceEqDiff, eq_self, Nat.zero_le, Nat.le_refl, not_false_eq_true, not_true_eq_false, true_and, and_true, and_self, if_true, if_false, p1.o, cl181 h181, c1]
    exact hQ
  have c1 : (nI k < nI 0) = False := q_ltf (by omega) hk
  simp only [c1, if_false] at hQ
  by_cases c2 : n ≤ k
  · have c3 : (nI n ≤ nI k) = True := q_let c2 hk
    simp only [hN, c3, if_true] at hQ
    simp (disch := first | assumption | omega) only [e206_0, e206_1, e206_2, e206_5, e206_8, e206_9, e206_10, e206_11, e206_52, e206_53, e206_56, e206_57, e206_58, e206_59, e206_60, e206_63, e206_64, e206_65, e206_66, e206_67, e206_68, e206_69, e206_72, e206_74, e206_75, e206_76, e206_77, e206_78, e206_79, e206_82, e206_83, e206_84, e206_85, e206_86, e206_89, e206_91, e206_92, e206_93, e206_94, e206_95, e206_96, e206_97, e206_98, e206_101, e206_103, e206_104, e206_105, e206_106, e206_108, e206_109, e206_110, e206_111, e206_114, e206_116, e206_117, e206_118, e206_119, e206_120, e206_121, e206_122, e206_123, e206_126, e206_127, e206_128, q_gv0, q_gvs, q_isI1, q_isA1, q_hs0, q_hsn, q_hsi, q_hsr, q_hss, q_inc1, List.set_cons_zero, List.set_cons_succ, ↓reduceIte, q_ss0, q_ssi, q_ssr, q_nr0, q_nr10, q_nr11, q_tlS, q_tlN, q_cl, q_let, q_lef, q_ltt, q_ltf, q_eqt, q_eqf, q_add, q_mul, Nat.reduceAdd, Nat.reduceLeDiff, Nat.reduceEqDiff, eq_self, Nat.zero_le, Nat.le_refl, not_false_eq_true, not_true_eq_false, true_and, and_true, and_self, if_true, if_false, p1.o, cl181 h181, c1, hN, c3]
    exact hQ
  have c3 : (nI n ≤ nI k) = False := q_lef (by omega) (by omega)
  simp only [hN, c3, if_false, q_cl hk] at hQ
  have kT : k < (M 0 3).toNatClampNeg := by rw [hN, q_cl (by omega)]; omega
  have l0 : 0 + 799 ≤ 9588 := by decide
  have k6 : k < 6 := by omega
  unfold tbY at hQ
  by_cases d0 : y = nI 0
  · rw [if_pos d0] at hQ
    simp (disch := first | assumption | omega) only [e206_0, e206_1, e206_2, e206_5, e206_8, e206_9, e206_10, e206_11, e206_52, e206_53, e206_56, e206_57, e206_58, e206_59, e206_60, e206_63, e206_64, e206_65, e206_66, e206_67, e206_68, e206_69, e206_72, e206_74, e206_75, e206_76, e206_77, e206_78, e206_79, e206_82, e206_83, e206_84, e206_85, e206_86, e206_89, e206_91, e206_92, e206_93, e206_94, e206_95, e206_96, e206_97, e206_98, e206_101, e206_103, e206_104, e206_105, e206_106, e206_108, e206_109, e206_110, e206_111, e206_114, e206_116, e206_117, e206_118, e206_119, e206_120, e206_121, e206_122, e206_123, e206_126, e206_127, e206_128, q_gv0, q_gvs, q_isI1, q_isA1, q_hs0, q_hsn, q_hsi, q_hsr, q_hss, q_inc1, List.set_cons_zero, List.set_cons_succ, ↓reduceIte, q_ss0, q_ssi, q_ssr, q_nr0, q_nr10, q_nr11, q_tlS, q_tlN, q_cl, q_let, q_lef, q_ltt, q_ltf, q_eqt, q_eqf, q_add, q_mul, Nat.reduceAdd, Nat.reduceLeDiff, Nat.reduceEqDiff, eq_self, Nat.zero_le, Nat.le_refl, not_false_eq_true, not_true_eq_false, true_and, and_true, and_self, if_true, if_false, p1.o, p1.g4, p1.l2, cl181 h181, c1, hN, c3, d0]
    exact hQ
  rw [if_neg d0] at hQ
  by_cases d1 : y = nI 1
  · rw [if_pos d1] at hQ
    simp (disch := first | assumption | omega) only [e206_0, e206_1, e206_2, e206_5, e206_8, e206_9, e206_10, e206_11, e206_52, e206_53, e206_56, e206_57, e206_58, e206_59, e206_60, e206_63, e206_64, e206_65, e206_66, e206_67, e206_68, e206_69, e206_72, e206_74, e206_75, e206_76, e206_77, e206_78, e206_79, e206_82, e206_83, e206_84, e206_85, e206_86, e206_89, e206_91, e206_92, e206_93, e206_94, e206_95, e206_96, e206_97, e206_98, e206_101, e206_103, e206_104, e206_105, e206_106, e206_108, e206_109, e206_110, e206_111, e206_114, e206_116, e206_117, e206_118, e206_119, e206_120, e206_121, e206_122, e206_123, e206_126, e206_127, e206_128, q_gv0, q_gvs, q_isI1, q_isA1, q_hs0, q_hsn, q_hsi, q_hsr, q_hss, q_inc1, List.set_cons_zero, List.set_cons_succ, ↓reduceIte, q_ss0, q_ssi, q_ssr, q_nr0, q_nr10, q_nr11, q_tlS, q_tlN, q_cl, q_let, q_lef, q_ltt, q_ltf, q_eqt, q_eqf, q_add, q_mul, Nat.reduceAdd, Nat.reduceLeDiff, Nat.reduceEqDiff, eq_self, Nat.zero_le, Nat.le_refl, not_false_eq_true, not_true_eq_false, true_and, and_true, and_self, if_true, if_false, p1.o, p1.g0, p1.l1, cl181 h181, c1, hN, c3, d1]
    exact hQ
  rw [if_neg d1] at hQ
  by_cases d2 : y = nI 2
  · rw [if_pos d2] at hQ
    simp (disch := first | assumption | omega) only [e206_0, e206_1, e206_2, e206_5, e206_8, e206_9, e206_10, e206_11, e206_52, e206_53, e206_56, e206_57, e206_58, e206_59, e206_60, e206_63, e206_64, e206_65, e206_66, e206_67, e206_68, e206_69, e206_72, e206_74, e206_75, e206_76, e206_77, e206_78, e206_79, e206_82, e206_83, e206_84, e206_85, e206_86, e206_89, e206_91, e206_92, e206_93, e206_94, e206_95, e206_96, e206_97, e206_98, e206_101, e206_103, e206_104, e206_105, e206_106, e206_108, e206_109, e206_110, e206_111, e206_114, e206_116, e206_117, e206_118, e206_119, e206_120, e206_121, e206_122, e206_123, e206_126, e206_127, e206_128, q_gv0, q_gvs, q_isI1, q_isA1, q_hs0, q_hsn, q_hsi, q_hsr, q_hss, q_inc1, List.set_cons_zero, List.set_cons_succ, ↓reduceIte, q_ss0, q_ssi, q_ssr, q_nr0, q_nr10, q_nr11, q_tlS, q_tlN, q_cl, q_let, q_lef, q_ltt, q_ltf, q_eqt, q_eqf, q_add, q_mul, Nat.reduceAdd, Nat.reduceLeDiff, Nat.reduceEqDiff, eq_self, Nat.zero_le, Nat.le_refl, not_false_eq_true, not_true_eq_false, true_and, and_true, and_self, if_true, if_false, p1.o, p1.g0, p1.l1, cl181 h181, c1, hN, c3, d2]
    exact hQ
  rw [if_neg d2] at hQ
  by_cases d3 : y = nI 3
  · obtain ⟨q, hq, hq2⟩ := (p3 k kT).1
    rw [Nat.zero_add] at hq2
    rw [if_pos d3, hq2, q_cl (show q < 2147483648 by omega)] at hQ
    simp (disch := first | assumption | omega) only [e206_0, e206_1, e206_2, e206_5, e206_8, e206_9, e206_10, e206_11, e206_52, e206_53, e206_56, e206_57, e206_58, e206_59, e206_60, e206_63, e206_64, e206_65, e206_66, e206_67, e206_68, e206_69, e206_72, e206_74, e206_75, e206_76, e206_77, e206_78, e206_79, e206_82, e206_83, e206_84, e206_85, e206_86, e206_89, e206_91, e206_92, e206_93, e206_94, e206_95, e206_96, e206_97, e206_98, e206_101, e206_103, e206_104, e206_105, e206_106, e206_108, e206_109, e206_110, e206_111, e206_114, e206_116, e206_117, e206_118, e206_119, e206_120, e206_121, e206_122, e206_123, e206_126, e206_127, e206_128, q_gv0, q_gvs, q_isI1, q_isA1, q_hs0, q_hsn, q_hsi, q_hsr, q_hss, q_inc1, List.set_cons_zero, List.set_cons_succ, ↓reduceIte, q_ss0, q_ssi, q_ssr, q_nr0, q_nr10, q_nr11, q_tlS, q_tlN, q_cl, q_let, q_lef, q_ltt, q_ltf, q_eqt, q_eqf, q_add, q_mul, Nat.reduceAdd, Nat.reduceLeDiff, Nat.reduceEqDiff, eq_self, Nat.zero_le, Nat.le_refl, not_false_eq_true, not_true_eq_false, true_and, and_true, and_self, if_true, if_false, p1.o, p1.g0, p1.g5, p1.l1, p1.l3, cl181 h181, c1, hN, c3, hq2, d3]
    exact hQ
  rw [if_neg d3] at hQ
  by_cases d4 : y = nI 4
  · rw [if_pos d4] at hQ
    simp (disch := first | assumption | omega) only [e206_0, e206_1, e206_2, e206_5, e206_8, e206_9, e206_10, e206_11, e206_52, e206_53, e206_56, e206_57, e206_58, e206_59, e206_60, e206_63, e206_64, e206_65, e206_66, e206_67, e206_68, e206_69, e206_72, e206_74, e206_75, e206_76, e206_77, e206_78, e206_79, e206_82, e206_83, e206_84, e206_85, e206_86, e206_89, e206_91, e206_92, e206_93, e206_94, e206_95, e206_96, e206_97, e206_98, e206_101, e206_103, e206_104, e206_105, e206_106, e206_108, e206_109, e206_110, e206_111, e206_114, e206_116, e206_117, e206_118, e206_119, e206_120, e206_121, e206_122, e206_123, e206_126, e206_127, e206_128, q_gv0, q_gvs, q_isI1, q_isA1, q_hs0, q_hsn, q_hsi, q_hsr, q_hss, q_inc1, List.set_cons_zero, List.set_cons_succ, ↓reduceIte, q_ss0, q_ssi, q_ssr, q_nr0, q_nr10, q_nr11, q_tlS, q_tlN, q_cl, q_let, q_lef, q_ltt, q_ltf, q_eqt, q_eqf, q_add, q_mul, Nat.reduceAdd, Nat.reduceLeDiff, Nat.reduceEqDiff, eq_self, Nat.zero_le, Nat.le_refl, not_false_eq_true, not_true_eq_false, true_and, and_true, and_self, if_true, if_false, p1.o, p1.g0, p1.l1, cl181 h181, c1, hN, c3, d4]
    exact hQ
  rw [if_neg d4] at hQ
  by_cases d5 : y = nI 5
  · rw [if_pos d5] at hQ
    simp (disch := first | assumption | omega) only [e206_0, e206_1, e206_2, e206_5, e206_8, e206_9, e206_10, e206_11, e206_52, e206_53, e206_56, e206_57, e206_58, e206_59, e206_60, e206_63, e206_64, e206_65, e206_66, e206_67, e206_68, e206_69, e206_72, e206_74, e206_75, e206_76, e206_77, e206_78, e206_79, e206_82, e206_83, e206_84, e206_85, e206_86, e206_89, e206_91, e206_92, e206_93, e206_94, e206_95, e206_96, e206_97, e206_98, e206_101, e206_103, e206_104, e206_105, e206_106, e206_108, e206_109, e206_110, e206_111, e206_114, e206_116, e206_117, e206_118, e206_119, e206_120, e206_121, e206_122, e206_123, e206_126, e206_127, e206_128, q_gv0, q_gvs, q_isI1, q_isA1, q_hs0, q_hsn, q_hsi, q_hsr, q_hss, q_inc1, List.set_cons_zero, List.set_cons_succ, ↓reduceIte, q_ss0, q_ssi, q_ssr, q_nr0, q_nr10, q_nr11, q_tlS, q_tlN, q_cl, q_let, q_lef, q_ltt, q_ltf, q_eqt, q_eqf, q_add, q_mul, Nat.reduceAdd, Nat.reduceLeDiff, Nat.reduceEqDiff, eq_self, Nat.zero_le, Nat.le_refl, not_false_eq_true, not_true_eq_false, true_and, and_true, and_self, if_true, if_false, p1.o, p1.g0, p1.l1, cl181 h181, c1, hN, c3, d5]
    exact hQ
  rw [if_neg d5] at hQ
  by_cases d6 : y = nI 6
  · rw [if_pos d6] at hQ
    simp (disch := first | assumption | omega) only [e206_0, e206_1, e206_2, e206_5, e206_8, e206_9, e206_10, e206_11, e206_52, e206_53, e206_56, e206_57, e206_58, e206_59, e206_60, e206_63, e206_64, e206_65, e206_66, e206_67, e206_68, e206_69, e206_72, e206_74, e206_75, e206_76, e206_77, e206_78, e206_79, e206_82, e206_83, e206_84, e206_85, e206_86, e206_89, e206_91, e206_92, e206_93, e206_94, e206_95, e206_96, e206_97, e206_98, e206_101, e206_103, e206_104, e206_105, e206_106, e206_108, e206_109, e206_110, e206_111, e206_114, e206_116, e206_117, e206_118, e206_119, e206_120, e206_121, e206_122, e206_123, e206_126, e206_127, e206_128, q_gv0, q_gvs, q_isI1, q_isA1, q_hs0, q_hsn, q_hsi, q_hsr, q_hss, q_inc1, List.set_cons_zero, List.set_cons_succ, ↓reduceIte, q_ss0, q_ssi, q_ssr, q_nr0, q_nr10, q_nr11, q_tlS, q_tlN, q_cl, q_let, q_lef, q_ltt, q_ltf, q_eqt, q_eqf, q_add, q_mul, Nat.reduceAdd, Nat.reduceLeDiff, Nat.reduceEqDiff, eq_self, Nat.zero_le, Nat.le_refl, not_false_eq_true, not_true_eq_false, true_and, and_true, and_self, if_true, if_false, p1.o, p1.g0, p1.l1, cl181 h181, cl163 h163, c1, hN, c3, d6]
    exact hQ
  rw [if_neg d6] at hQ
  simp (disch := first | assumption | omega) only [e206_0, e206_1, e206_2, e206_5, e206_8, e206_9, e206_10, e206_11, e206_52, e206_53, e206_56, e206_57, e206_58, e206_59, e206_60, e206_63, e206_64, e206_65, e206_66, e206_67, e206_68, e206_69, e206_72, e206_74, e206_75, e206_76, e206_77, e206_78, e206_79, e206_82, e206_83, e206_84, e206_85, e206_86, e206_89, e206_91, e206_92, e206_93, e206_94, e206_95, e206_96, e206_97, e206_98, e206_101, e206_103, e206_104, e206_105, e206_106, e206_108, e206_109, e206_110, e206_111, e206_114, e206_116, e206_117, e206_118, e206_119, e206_120, e206_121, e206_122, e206_123, e206_126, e206_127, e206_128, q_gv0, q_gvs, q_isI1, q_isA1, q_hs0, q_hsn, q_hsi, q_hsr, q_hss, q_inc1, List.set_cons_zero, List.set_cons_succ, ↓reduceIte, q_ss0, q_ssi, q_ssr, q_nr0, q_nr10, q_nr11, q_tlS, q_tlN, q_cl, q_let, q_lef, q_ltt, q_ltf, q_eqt, q_eqf, q_add, q_mul, Nat.reduceAdd, Nat.reduceLeDiff, Nat.reduceEqDiff, eq_self, Nat.zero_le, Nat.le_refl, not_false_eq_true, not_true_eq_false, true_and, and_true, and_self, if_true, if_false, p1.o, cl181 h181, c1, hN, c3, d0, d1, d2, d3, d4, d5, d6]
  exact hQ
def sp207 : mv_Sp := fun As sh M Q => ∃ (x : Int32), As = [.ref 0, .int x] ∧ ((oM sh) ∧ (∃ n, n ≤ 6 ∧ M 0 3 = nI n) ∧ (cY M 0)) ∧ Q (some (.int (if x = nI 0 then coY M 0 else if x = nI 1 then slF (snY M 0) (M 0 3).toNatClampNeg else Int32.ofInt (-1)))) (sh) (M)
theorem cl207 {S : Nat → mv_Sp} (hS : S 207 = sp207) {sh : mv_Shp} {M : mv_Mem} {x : Int32} (p1 : oM sh) (p2 : ∃ n, n ≤ 6 ∧ M 0 3 = nI n) (p3 : cY M 0) {K : mv_Kt} {pc : Nat} {L : mv_Loc} {st : List Value} {cc_ ss_ : Nat} : mv_kal S 207 [.ref 0, .int x] sh M K pc L st cc_ ss_ = K pc L ((some (.int (if x = nI 0 then coY M 0 else if x = nI 1 then slF (snY M 0) (M 0 3).toNatClampNeg else Int32.ofInt (-1))) : Option Value).toList ++ st) (sh) (M) cc_ ss_ := by
  refine q_kal (fun F => q_cali (fun Q => ?_))
  rw [hS]
  constructor
  · rintro ⟨x', hE, ⟨zp1, zp2, zp3⟩, hQ⟩
    simp only [List.cons.injEq, Value.ref.injEq, Value.int.injEq, Value.long.injEq, and_true, true_and] at hE
    subst hE
    exact hQ
  · intro hQ
    exact ⟨x, rfl, ⟨p1, p2, p3⟩, hQ⟩
theorem ct207 {S : Nat → mv_Sp} (h162 : S 162 = sp162) (h164 : S 164 = sp164) : ∀ As sh M P, sp207 As sh M P → (mv_al0 As).length ≤ 2 ∧ mr207 S P 0 (mv_ent As 2) [] sh M 0 0 := by
  rintro As sh M P ⟨x, rfl, ⟨p1, p2, p3⟩, hQ⟩
  refine ⟨Nat.le_of_ble_eq_true rfl, ?_⟩
  show mr207 S P 0 [some (.ref 0), some (.int x)] [] sh M 0 0
  have l0 : 0 + 799 ≤ 9588 := by decide
  by_cases c1 : x = nI 0
  · rw [if_pos c1] at hQ
    simp (disch := first | assumption | omega) only [e207_0, e207_1, e207_4, e207_5, e207_6, e207_9, e207_12, e207_13, e207_14, e207_17, e207_18, e207_19, e207_22, e207_25, e207_26, q_gv0, q_gvs, q_isI1, q_isA1, q_hs0, q_hsn, q_hsi, q_hsr, q_hss, q_inc1, List.set_cons_zero, List.set_cons_succ, ↓reduceIte, q_ss0, q_ssi, q_ssr, q_nr0, q_nr10, q_nr11, q_tlS, q_tlN, q_cl, q_let, q_lef, q_ltt, q_ltf, q_eqt, q_eqf, q_add, q_mul, Nat.reduceAdd, Nat.reduceLeDiff, Nat.reduceEqDiff, eq_self, Nat.zero_le, Nat.le_refl, not_false_eq_true, not_true_eq_false, true_and, and_true, and_self, if_true, if_false, p1.o, cl162 h162, c1]
    exact hQ
  rw [if_neg c1] at hQ
  by_cases c2 : x = nI 1
  · rw [if_pos c2] at hQ
    simp (disch := first | assumption | omega) only [e207_0, e207_1, e207_4, e207_5, e207_6, e207_9, e207_12, e207_13, e207_14, e207_17, e207_18, e207_19, e207_22, e207_25, e207_26, q_gv0, q_gvs, q_isI1, q_isA1, q_hs0, q_hsn, q_hsi, q_hsr, q_hss, q_inc1, List.set_cons_zero, List.set_cons_succ, ↓reduceIte, q_ss0, q_ssi, q_ssr, q_nr0, q_nr10, q_nr11, q_tlS, q_tlN, q_cl, q_let, q_lef, q_ltt, q_ltf, q_eqt, q_eqf, q_add, q_mul, Nat.reduceAdd, Nat.reduceLeDiff, Nat.reduceEqDiff, eq_self, Nat.zero_le, Nat.le_refl, not_false_eq_true, not_true_eq_false, true_and, and_true, and_self, if_true, if_false, p1.o, cl164 h164, c1, c2]
    exact hQ
  rw [if_neg c2] at hQ
  simp (disch := first | assumption | omega) only [e207_0, e207_1, e207_4, e207_5, e207_6, e207_9, e207_12, e207_13, e207_14, e207_17, e207_18, e207_19, e207_22, e207_25, e207_26, q_gv0, q_gvs, q_isI1, q_isA1, q_hs0, q_hsn, q_hsi, q_hsr, q_hss, q_inc1, List.set_cons_zero, List.set_cons_succ, ↓reduceIte, q_ss0, q_ssi, q_ssr, q_nr0, q_nr10, q_nr11, q_tlS, q_tlN, q_cl, q_let, q_lef, q_ltt, q_ltf, q_eqt, q_eqf, q_add, q_mul, Nat.reduceAdd, Nat.reduceLeDiff, Nat.reduceEqDiff, eq_self, Nat.zero_le, Nat.le_refl, not_false_eq_true, not_true_eq_false, true_and, and_true, and_self, if_true, if_false, c1, c2]
  exact hQ
/-- turned by hand -/
def trZ (M : mv_Mem) (t w : Nat) : mv_Mem := if ocF (M 2 t).toNatClampNeg w (M 1 (0 + 12 + t)) (M 0 9) = 2 then M else if ocF (M 2 t).toNatClampNeg w (M 1 (0 + 12 + t)) (M 0 9) = 0 then tyM (kpM M) 0 t (qf (M 2 t).toNatClampNeg w) else kpM M
def sp208 : mv_Sp := fun As sh M Q => ∃ (x : Int32) (y : Int32), As = [.ref 0, .int x, .int y] ∧ ((oM sh) ∧ (gM M) ∧ (cY M 0) ∧ (∃ n, n < 9 ∧ M 0 1 = nI n)) ∧ Q (some (.int (if x < nI 0 then Int32.ofInt (-1) else if M 0 3 ≤ x then Int32.ofInt (-1) else if ¬ y = nI 0 ∧ ¬ y = nI 1 then Int32.ofInt (-1) else if ocF (M 2 x.toNatClampNeg).toNatClampNeg y.toNatClampNeg (M 1 (0 + 12 + x.toNatClampNeg)) (M 0 9) = 2 then Int32.ofInt (-2) else trZ M x.toNatClampNeg y.toNatClampNeg 1 (6 + x.toNatClampNeg)))) (sh) (if x < nI 0 then M else if M 0 3 ≤ x then M else if ¬ y = nI 0 ∧ ¬ y = nI 1 then M else trZ M x.toNatClampNeg y.toNatClampNeg)
theorem cl208 {S : Nat → mv_Sp} (hS : S 208 = sp208) {sh : mv_Shp} {M : mv_Mem} {x : Int32} {y : Int32} (p1 : oM sh) (p2 : gM M) (p3 : cY M 0) (p4 : ∃ n, n < 9 ∧ M 0 1 = nI n) {K : mv_Kt} {pc : Nat} {L : mv_Loc} {st : List Value} {cc_ ss_ : Nat} : mv_kal S 208 [.ref 0, .int x, .int y] sh M K pc L st cc_ ss_ = K pc L ((some (.int (if x < nI 0 then Int32.ofInt (-1) else if M 0 3 ≤ x then Int32.ofInt (-1) else if ¬ y = nI 0 ∧ ¬ y = nI 1 then Int32.ofInt (-1) else if ocF (M 2 x.toNatClampNeg).toNatClampNeg y.toNatClampNeg (M 1 (0 + 12 + x.toNatClampNeg)) (M 0 9) = 2 then Int32.ofInt (-2) else trZ M x.toNatClampNeg y.toNatClampNeg 1 (6 + x.toNatClampNeg))) : Option Value).toList ++ st) (sh) (if x < nI 0 then M else if M 0 3 ≤ x then M else if ¬ y = nI 0 ∧ ¬ y = nI 1 then M else trZ M x.toNatClampNeg y.toNatClampNeg) cc_ ss_ := by
  refine q_kal (fun F => q_cali (fun Q => ?_))
  rw [hS]
  constructor
  · rintro ⟨x', y', hE, ⟨zp1, zp2, zp3, zp4⟩, hQ⟩
    simp only [List.cons.injEq, Value.ref.injEq, Value.int.injEq, Value.long.injEq, and_true, true_and] at hE
    obtain ⟨rfl, rfl⟩ := hE
    exact hQ
  · intro hQ
    exact ⟨x, y, rfl, ⟨p1, p2, p3, p4⟩, hQ⟩
theorem ct208 {S : Nat → mv_Sp} (h157 : S 157 = sp157) (h159 : S 159 = sp159) (h160 : S 160 = sp160) (h181 : S 181 = sp181) (h194 : S 194 = sp194) : ∀ As sh M P, sp208 As sh M P → (mv_al0 As).length ≤ 3 ∧ mr208 S P 0 (mv_ent As 3) [] sh M 0 0 := by
  rintro As sh M P ⟨x, y, rfl, ⟨p1, p2, p3, p4⟩, hQ⟩
  refine ⟨Nat.le_of_ble_eq_true rfl, ?_⟩
  show mr208 S P 0 [some (.ref 0), some (.int x), some (.int y)] [] sh M 0 0
  obtain ⟨n, hn, hN⟩ := id p2.1
  have hn2 : ∃ n, n ≤ 6 ∧ M 0 3 = nI n := p2.1
  rcases i32_c x with c1 | ⟨k, hk, rfl⟩
  · simp only [c1, if_true] at hQ
    simp (disch := first | assumption | omega) only [e208_0, e208_1, e208_2, e208_5, e208_8, e208_9, e208_12, e208_15, e208_16, e208_17, e208_18, e208_19, e208_20, e208_21, e208_24, e208_27, e208_29, e208_30, e208_31, e208_34, e208_35, e208_36, e208_37, e208_38, e208_41, e208_41r, e208_42, e208_43, e208_46, e208_48, e208_49, e208_50, e208_51, q_gv0, q_gvs, q_isI1, q_isA1, q_hs0, q_hsn, q_hsi, q_hsr, q_hss, q_inc1, List.set_cons_zero, List.set_cons_succ, ↓reduceIte, q_ss0, q_ssi, q_ssr, q_nr0, q_nr10, q_nr11, q_tlS, q_tlN, q_cl, q_let, q_lef, q_ltt, q_ltf, q_eqt, q_eqf, q_add, q_mul, Nat.reduceAdd, Nat.reduceLeDiff, Nat.reduceEqDiff, eq_self, Nat.zero_le, Nat.le_refl, not_false_eq_true, not_true_eq_false, true_and, and_true, and_self, if_true, if_false, p1.o, cl181 h181, c1]
    exact hQ
  have c1 : (nI k < nI 0) = False := q_ltf (by omega) hk
  simp only [c1, if_false] at hQ
  by_cases c2 : n ≤ k
  · have c3 : (nI n ≤ nI k) = True := q_let c2 hk
    simp only [hN, c3, if_true] at hQ
    simp (disch := first | assumption | omega) only [e208_0, e208_1, e208_2, e208_5, e208_8, e208_9, e208_12, e208_15, e208_16, e208_17, e208_18, e208_19, e208_20, e208_21, e208_24, e208_27, e208_29, e208_30, e208_31, e208_34, e208_35, e208_36, e208_37, e208_38, e208_41, e208_41r, e208_42, e208_43, e208_46, e208_48, e208_49, e208_50, e208_51, q_gv0, q_gvs, q_isI1, q_isA1, q_hs0, q_hsn, q_hsi, q_hsr, q_hss, q_inc1, List.set_cons_zero, List.set_cons_succ, ↓reduceIte, q_ss0, q_ssi, q_ssr, q_nr0, q_nr10, q_nr11, q_tlS, q_tlN, q_cl, q_let, q_lef, q_ltt, q_ltf, q_eqt, q_eqf, q_add, q_mul, Nat.reduceAdd, Nat.reduceLeDiff, Nat.reduceEqDiff, eq_self, Nat.zero_le, Nat.le_refl, not_false_eq_true, not_true_eq_false, true_and, and_true, and_self, if_true, if_false, p1.o, cl181 h181, c1, hN, c3]
    exact hQ
  have c3 : (nI n ≤ nI k) = False := q_lef (by omega) (by omega)
  simp only [hN, c3, if_false, q_cl hk] at hQ
  have kT : k < (M 0 3).toNatClampNeg := by rw [hN, q_cl (by omega)]; omega
  have k6 : k < 6 := by omega
  have l0 : 0 + 799 ≤ 9588 := by decide
  rcases way_c y with ⟨w, hw, rfl⟩ | ⟨d0, d1⟩
  · have d2 : ¬ (¬ nI w = nI 0 ∧ ¬ nI w = nI 1) := by
      rcases (show w = 0 ∨ w = 1 by omega) with rfl | rfl
      · exact fun z => z.1 rfl
      · exact fun z => z.2 rfl
    rw [if_neg d2, if_neg d2, q_cl (show w < 2147483648 by omega)] at hQ
    have wt := @way_t w hw (nI 1) (nI 0)
    have hk4 : ∃ q, q < 4 ∧ M 2 k = nI q := p2.2.2.2.2.1 k kT
    have ht : tw40 (M 1 (0 + 12 + k)) := (p3 k kT).2.1
    have h9 := p2.2.2.1
    have e2 : kpM M 2 = M 2 := kpM_out (by decide) (by decide)
    have e9 : kpM M 0 9 = M 0 9 := kpM_0 (by decide)
    have e12 : kpM M 1 (0 + 12 + k) = M 1 (0 + 12 + k) := kpM_lo (by omega)
    have hk4' : ∃ q, q < 4 ∧ kpM M 2 k = nI q := by rw [e2]; exact hk4
    have ht' : tw40 (kpM M 1 (0 + 12 + k)) := by rw [e12]; exact ht
    have h9' : ∃ n, n ≤ 40 ∧ kpM M 0 9 = nI n := by rw [e9]; exact h9
    have ho := ocF_lt (M 2 k).toNatClampNeg w (M 1 (0 + 12 + k)) (M 0 9)
    unfold trZ at hQ
    rcases ho with h0 | h0 | h0
    · simp only [h0, (by decide : ((0 : Nat) = 2) = False), if_false, eq_self, if_true] at hQ
      simp (disch := first | assumption | omega) only [e208_0, e208_1, e208_2, e208_5, e208_8, e208_9, e208_12, e208_15, e208_16, e208_17, e208_18, e208_19, e208_20, e208_21, e208_24, e208_27, e208_29, e208_30, e208_31, e208_34, e208_35, e208_36, e208_37, e208_38, e208_41, e208_41r, e208_42, e208_43, e208_46, e208_48, e208_49, e208_50, e208_51, q_gv0, q_gvs, q_isI1, q_isA1, q_hs0, q_hsn, q_hsi, q_hsr, q_hss, q_inc1, List.set_cons_zero, List.set_cons_succ, ↓reduceIte, q_ss0, q_ssi, q_ssr, q_nr0, q_nr10, q_nr11, q_tlS, q_tlN, q_cl, q_let, q_lef, q_ltt, q_ltf, q_eqt, q_eqf, q_add, q_mul, Nat.reduceAdd, Nat.reduceLeDiff, Nat.reduceEqDiff, eq_self, Nat.zero_le, Nat.le_refl, not_false_eq_true, not_true_eq_false, true_and, and_true, and_self, if_true, if_false, p1.o, p1.g0, p1.l1, cl181 h181, cl194 h194 trivial, c1, hN, c3, wt, cl159 h159, cl157 h157, cl160 h160, h0, e2, e9, e12, (by decide : ((0 : Nat) = 2) = False)]
      exact hQ
    · simp only [h0, (by decide : ((1 : Nat) = 2) = False), (by decide : ((1 : Nat) = 0) = False), if_false] at hQ
      simp (disch := first | assumption | omega) only [e208_0, e208_1, e208_2, e208_5, e208_8, e208_9, e208_12, e208_15, e208_16, e208_17, e208_18, e208_19, e208_20, e208_21, e208_24, e208_27, e208_29, e208_30, e208_31, e208_34, e208_35, e208_36, e208_37, e208_38, e208_41, e208_41r, e208_42, e208_43, e208_46, e208_48, e208_49, e208_50, e208_51, q_gv0, q_gvs, q_isI1, q_isA1, q_hs0, q_hsn, q_hsi, q_hsr, q_hss, q_inc1, List.set_cons_zero, List.set_cons_succ, ↓reduceIte, q_ss0, q_ssi, q_ssr, q_nr0, q_nr10, q_nr11, q_tlS, q_tlN, q_cl, q_let, q_lef, q_ltt, q_ltf, q_eqt, q_eqf, q_add, q_mul, Nat.reduceAdd, Nat.reduceLeDiff, Nat.reduceEqDiff, eq_self, Nat.zero_le, Nat.le_refl, not_false_eq_true, not_true_eq_false, true_and, and_true, and_self, if_true, if_false, p1.o, p1.g0, p1.l1, cl181 h181, cl194 h194 trivial, c1, hN, c3, wt, cl159 h159, cl157 h157, cl160 h160, h0, e2, e9, e12, (by decide : ((1 : Nat) = 2) = False), (by decide : ((1 : Nat) = 0) = False)]
      exact hQ
    · simp only [h0, eq_self, if_true] at hQ
      simp (disch := first | assumption | omega) only [e208_0, e208_1, e208_2, e208_5, e208_8, e208_9, e208_12, e208_15, e208_16, e208_17, e208_18, e208_19, e208_20, e208_21, e208_24, e208_27, e208_29, e208_30, e208_31, e208_34, e208_35, e208_36, e208_37, e208_38, e208_41, e208_41r, e208_42, e208_43, e208_46, e208_48, e208_49, e208_50, e208_51, q_gv0, q_gvs, q_isI1, q_isA1, q_hs0, q_hsn, q_hsi, q_hsr, q_hss, q_inc1, List.set_cons_zero, List.set_cons_succ, ↓reduceIte, q_ss0, q_ssi, q_ssr, q_nr0, q_nr10, q_nr11, q_tlS, q_tlN, q_cl, q_let, q_lef, q_ltt, q_ltf, q_eqt, q_eqf, q_add, q_mul, Nat.reduceAdd, Nat.reduceLeDiff, Nat.reduceEqDiff, eq_self, Nat.zero_le, Nat.le_refl, not_false_eq_true, not_true_eq_false, true_and, and_true, and_self, if_true, if_false, p1.o, p1.g0, p1.l1, cl181 h181, cl194 h194 trivial, c1, hN, c3, wt, cl159 h159, h0]
      exact hQ
  · rw [if_pos ⟨d0, d1⟩, if_pos ⟨d0, d1⟩] at hQ
    simp (disch := first | assumption | omega) only [e208_0, e208_1, e208_2, e208_5, e208_8, e208_9, e208_12, e208_15, e208_16, e208_17, e208_18, e208_19, e208_20, e208_21, e208_24, e208_27, e208_29, e208_30, e208_31, e208_34, e208_35, e208_36, e208_37, e208_38, e208_41, e208_41r, e208_42, e208_43, e208_46, e208_48, e208_49, e208_50, e208_51, q_gv0, q_gvs, q_isI1, q_isA1, q_hs0, q_hsn, q_hsi, q_hsr, q_hss, q_inc1, List.set_cons_zero, List.set_cons_succ, ↓reduceIte, q_ss0, q_ssi, q_ssr, q_nr0, q_nr10, q_nr11, q_tlS, q_tlN, q_cl, q_let, q_lef, q_ltt, q_ltf, q_eqt, q_eqf, q_add, q_mul, Nat.reduceAdd, Nat.reduceLeDiff, Nat.reduceEqDiff, eq_self, Nat.zero_le, Nat.le_refl, not_false_eq_true, not_true_eq_false, true_and, and_true, and_self, if_true, if_false, p1.o, cl181 h181, cl194 h194 trivial, c1, hN, c3, d0, d1]
    exact hQ
def sp213 : mv_Sp := fun As sh M Q => ∃ (x : Int32) (y : Int32), As = [.ref 0, .int x, .int y] ∧ ((oM sh) ∧ (gM M) ∧ (cY M 0) ∧ (∃ n, n < 9 ∧ M 0 1 = nI n) ∧ (∃ r, r < 25 ∧ M 1 30 = nI r)) ∧ Q (some (.int (if x < nI 0 then Int32.ofInt (-1) else if M 0 7 ≤ x then Int32.ofInt (-1) else if ¬ y = nI 0 ∧ ¬ y = nI 1 then Int32.ofInt (-1) else if M 1 30 = nI 24 then Int32.ofInt (-3) else coY (wvY (kpM M) 0 x.toNatClampNeg y.toNatClampNeg) 0))) (sh) (if x < nI 0 then M else if M 0 7 ≤ x then M else if ¬ y = nI 0 ∧ ¬ y = nI 1 then M else if M 1 30 = nI 24 then M else wvY (kpM M) 0 x.toNatClampNeg y.toNatClampNeg)
theorem cl213 {S : Nat → mv_Sp} (hS : S 213 = sp213) {sh : mv_Shp} {M : mv_Mem} {x : Int32} {y : Int32} (p1 : oM sh) (p2 : gM M) (p3 : cY M 0) (p4 : ∃ n, n < 9 ∧ M 0 1 = nI n) (p5 : ∃ r, r < 25 ∧ M 1 30 = nI r) {K : mv_Kt} {pc : Nat} {L : mv_Loc} {st : List Value} {cc_ ss_ : Nat} : mv_kal S 213 [.ref 0, .int x, .int y] sh M K pc L st cc_ ss_ = K pc L ((some (.int (if x < nI 0 then Int32.ofInt (-1) else if M 0 7 ≤ x then Int32.ofInt (-1) else if ¬ y = nI 0 ∧ ¬ y = nI 1 then Int32.ofInt (-1) else if M 1 30 = nI 24 then Int32.ofInt (-3) else coY (wvY (kpM M) 0 x.toNatClampNeg y.toNatClampNeg) 0)) : Option Value).toList ++ st) (sh) (if x < nI 0 then M else if M 0 7 ≤ x then M else if ¬ y = nI 0 ∧ ¬ y = nI 1 then M else if M 1 30 = nI 24 then M else wvY (kpM M) 0 x.toNatClampNeg y.toNatClampNeg) cc_ ss_ := by
  refine q_kal (fun F => q_cali (fun Q => ?_))
  rw [hS]
  constructor
  · rintro ⟨x', y', hE, ⟨zp1, zp2, zp3, zp4, zp5⟩, hQ⟩
    simp only [List.cons.injEq, Value.ref.injEq, Value.int.injEq, Value.long.injEq, and_true, true_and] at hE
    obtain ⟨rfl, rfl⟩ := hE
    exact hQ
  · intro hQ
    exact ⟨x, y, rfl, ⟨p1, p2, p3, p4, p5⟩, hQ⟩
theorem ct213 {S : Nat → mv_Sp} (h157 : S 157 = sp157) (h162 : S 162 = sp162) (h165 : S 165 = sp165) (h193 : S 193 = sp193) (h194 : S 194 = sp194) : ∀ As sh M P, sp213 As sh M P → (mv_al0 As).length ≤ 3 ∧ mr213 S P 0 (mv_ent As 3) [] sh M 0 0 := by
  rintro As sh M P ⟨x, y, rfl, ⟨p1, p2, p3, p4, p5⟩, hQ⟩
  refine ⟨Nat.le_of_ble_eq_true rfl, ?_⟩
  show mr213 S P 0 [some (.ref 0), some (.int x), some (.int y)] [] sh M 0 0
  obtain ⟨n, hn, hN⟩ := id p2.2.1
  obtain ⟨r, hr, hR⟩ := id p5
  have hn2 : ∃ n, n ≤ 6 ∧ M 0 7 = nI n := p2.2.1
  rcases i32_c x with c1 | ⟨k, hk, rfl⟩
  · simp only [c1, if_true] at hQ
    simp (disch := first | assumption | omega) only [e213_0, e213_1, e213_2, e213_5, e213_8, e213_9, e213_12, e213_15, e213_16, e213_17, e213_18, e213_21, e213_23, e213_24, e213_26, e213_29, e213_31, e213_32, e213_33, e213_36, e213_37, e213_38, e213_39, e213_40, e213_43, e213_43r, e213_44, e213_45, e213_46, e213_49, q_gv0, q_gvs, q_isI1, q_isA1, q_hs0, q_hsn, q_hsi, q_hsr, q_hss, q_inc1, List.set_cons_zero, List.set_cons_succ, ↓reduceIte, q_ss0, q_ssi, q_ssr, q_nr0, q_nr10, q_nr11, q_tlS, q_tlN, q_cl, q_let, q_lef, q_ltt, q_ltf, q_eqt, q_eqf, q_add, q_mul, Nat.reduceAdd, Nat.reduceLeDiff, Nat.reduceEqDiff, eq_self, Nat.zero_le, Nat.le_refl, not_false_eq_true, not_true_eq_false, true_and, and_true, and_self, if_true, if_false, p1.o, cl193 h193, c1]
    exact hQ
  have c1 : (nI k < nI 0) = False := q_ltf (by omega) hk
  simp only [c1, if_false] at hQ
  by_cases c2 : n ≤ k
  · have c3 : (nI n ≤ nI k) = True := q_let c2 hk
    simp only [hN, c3, if_true] at hQ
    simp (disch := first | assumption | omega) only [e213_0, e213_1, e213_2, e213_5, e213_8, e213_9, e213_12, e213_15, e213_16, e213_17, e213_18, e213_21, e213_23, e213_24, e213_26, e213_29, e213_31, e213_32, e213_33, e213_36, e213_37, e213_38, e213_39, e213_40, e213_43, e213_43r, e213_44, e213_45, e213_46, e213_49, q_gv0, q_gvs, q_isI1, q_isA1, q_hs0, q_hsn, q_hsi, q_hsr, q_hss, q_inc1, List.set_cons_zero, List.set_cons_succ, ↓reduceIte, q_ss0, q_ssi, q_ssr, q_nr0, q_nr10, q_nr11, q_tlS, q_tlN, q_cl, q_let, q_lef, q_ltt, q_ltf, q_eqt, q_eqf, q_add, q_mul, Nat.reduceAdd, Nat.reduceLeDiff, Nat.reduceEqDiff, eq_self, Nat.zero_le, Nat.le_refl, not_false_eq_true, not_true_eq_false, true_and, and_true, and_self, if_true, if_false, p1.o, cl193 h193, c1, hN, c3]
    exact hQ
  have c3 : (nI n ≤ nI k) = False := q_lef (by omega) (by omega)
  simp only [hN, c3, if_false, q_cl hk] at hQ
  have k6 : k < 6 := by omega
  have l0 : 0 + 799 ≤ 9588 := by decide
  rcases way_c y with ⟨w, hw, rfl⟩ | ⟨d0, d1⟩
  · have d2 : ¬ (¬ nI w = nI 0 ∧ ¬ nI w = nI 1) := by
      rcases (show w = 0 ∨ w = 1 by omega) with rfl | rfl
      · exact fun z => z.1 rfl
      · exact fun z => z.2 rfl
    rw [if_neg d2, if_neg d2, q_cl (show w < 2147483648 by omega)] at hQ
    have wt := @way_t w hw (nI 1) (nI 0)
    by_cases c4 : r = 24
    · subst c4
      rw [if_pos hR, if_pos hR] at hQ
      simp (disch := first | assumption | omega) only [e213_0, e213_1, e213_2, e213_5, e213_8, e213_9, e213_12, e213_15, e213_16, e213_17, e213_18, e213_21, e213_23, e213_24, e213_26, e213_29, e213_31, e213_32, e213_33, e213_36, e213_37, e213_38, e213_39, e213_40, e213_43, e213_43r, e213_44, e213_45, e213_46, e213_49, q_gv0, q_gvs, q_isI1, q_isA1, q_hs0, q_hsn, q_hsi, q_hsr, q_hss, q_inc1, List.set_cons_zero, List.set_cons_succ, ↓reduceIte, q_ss0, q_ssi, q_ssr, q_nr0, q_nr10, q_nr11, q_tlS, q_tlN, q_cl, q_let, q_lef, q_ltt, q_ltf, q_eqt, q_eqf, q_add, q_mul, Nat.reduceAdd, Nat.reduceLeDiff, Nat.reduceEqDiff, eq_self, Nat.zero_le, Nat.le_refl, not_false_eq_true, not_true_eq_false, true_and, and_true, and_self, if_true, if_false, p1.o, p1.g0, p1.l1, cl193 h193, cl194 h194 trivial, c1, hN, c3, wt, hR]
      exact hQ
    have c5 : ¬ M 1 30 = nI 24 := fun z => c4 ((nI_eq (by omega) (by omega)).mp (hR.symm.trans z))
    rw [if_neg c5, if_neg c5] at hQ
    have g2 := gM_kp p2
    have cy2 := cY_kp p2 p3
    have r2 : ∃ r, r < 24 ∧ kpM M 1 (0 + 30) = nI r := ⟨r, by omega, by rw [kpM_lo (by omega)]; exact hR⟩
    have w3 : wvY (kpM M) 0 k w 0 3 = M 0 3 := by
      unfold wvY
      rw [q_upO (by decide), q_upO (by decide), q_upO (by decide), trY_out (by decide), wvA_out (by decide), kpM_0 (by decide)]
    have hw3 : ∃ n, n ≤ 6 ∧ wvY (kpM M) 0 k w 0 3 = nI n := by rw [w3]; exact p2.1
    have cw : cY (wvY (kpM M) 0 k w) 0 := by
      unfold wvY
      have g3 := gM_wvA (b := 0) g2
      have c3 : cY (wvA (kpM M) 0) 0 := cY_of (gM6 g2) cy2 (by rw [wvA_out (by decide)]) (fun j _ h => wvA_lo (by omega))
      have c4 := cY_tr (p := k) hw g3 c3 (kpM M 0 3).toNatClampNeg (by rw [wvA_out (by decide)]; exact Nat.le_refl _)
      refine cY_of (gM6 (gM_trY g3)) c4 (by rw [q_upO (by decide), q_upO (by decide), q_upO (by decide)]) (fun j _ h => ?_)
      rw [q_upN (by omega), q_upN (by omega), q_upN (by omega)]
    simp (disch := first | assumption | omega) only [e213_0, e213_1, e213_2, e213_5, e213_8, e213_9, e213_12, e213_15, e213_16, e213_17, e213_18, e213_21, e213_23, e213_24, e213_26, e213_29, e213_31, e213_32, e213_33, e213_36, e213_37, e213_38, e213_39, e213_40, e213_43, e213_43r, e213_44, e213_45, e213_46, e213_49, q_gv0, q_gvs, q_isI1, q_isA1, q_hs0, q_hsn, q_hsi, q_hsr, q_hss, q_inc1, List.set_cons_zero, List.set_cons_succ, ↓reduceIte, q_ss0, q_ssi, q_ssr, q_nr0, q_nr10, q_nr11, q_tlS, q_tlN, q_cl, q_let, q_lef, q_ltt, q_ltf, q_eqt, q_eqf, q_add, q_mul, Nat.reduceAdd, Nat.reduceLeDiff, Nat.reduceEqDiff, eq_self, Nat.zero_le, Nat.le_refl, not_false_eq_true, not_true_eq_false, true_and, and_true, and_self, if_true, if_false, p1.o, p1.g0, p1.l1, cl193 h193, cl194 h194 trivial, c1, hN, c3, wt, hR, cl157 h157, cl165 h165, cl162 h162]
    exact hQ
  · rw [if_pos ⟨d0, d1⟩, if_pos ⟨d0, d1⟩] at hQ
    simp (disch := first | assumption | omega) only [e213_0, e213_1, e213_2, e213_5, e213_8, e213_9, e213_12, e213_15, e213_16, e213_17, e213_18, e213_21, e213_23, e213_24, e213_26, e213_29, e213_31, e213_32, e213_33, e213_36, e213_37, e213_38, e213_39, e213_40, e213_43, e213_43r, e213_44, e213_45, e213_46, e213_49, q_gv0, q_gvs, q_isI1, q_isA1, q_hs0, q_hsn, q_hsi, q_hsr, q_hss, q_inc1, List.set_cons_zero, List.set_cons_succ, ↓reduceIte, q_ss0, q_ssi, q_ssr, q_nr0, q_nr10, q_nr11, q_tlS, q_tlN, q_cl, q_let, q_lef, q_ltt, q_ltf, q_eqt, q_eqf, q_add, q_mul, Nat.reduceAdd, Nat.reduceLeDiff, Nat.reduceEqDiff, eq_self, Nat.zero_le, Nat.le_refl, not_false_eq_true, not_true_eq_false, true_and, and_true, and_self, if_true, if_false, p1.o, cl193 h193, cl194 h194 trivial, c1, hN, c3, d0, d1]
    exact hQ
