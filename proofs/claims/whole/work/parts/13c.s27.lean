/-! counted -/
def cnF (M : mv_Mem) (x : Int32) : Int32 :=
  if x = nI 0 then M 3 0 else if x = nI 1 then M 3 1 else if x = nI 2 then M 3 2 else if x = nI 3 then M 3 3 else if x = nI 4 then M 18 2
  else if x = nI 5 then nI (lfF (fun t => M 19 (t * 5 + 2)) (M 3 0).toNatClampNeg) else if x = nI 6 then M 0 11 else if x = nI 7 then M 0 7 else if x = nI 8 then M 0 9 else if x = nI 9 then M 1 3 else Int32.ofInt (-1)
def sp95 : mv_Sp := fun As sh M Q => ∃ (x : Int32), As = [.ref 0, .int x] ∧ ((oX sh) ∧ (∃ n, n ≤ 6 ∧ M 3 0 = nI n)) ∧ Q (some (.int (cnF M x))) (sh) (M)
theorem cl95 {S : Nat → mv_Sp} (hS : S 95 = sp95) {sh : mv_Shp} {M : mv_Mem} {x : Int32} (p1 : oX sh) (p2 : ∃ n, n ≤ 6 ∧ M 3 0 = nI n) {K : mv_Kt} {pc : Nat} {L : mv_Loc} {st : List Value} {cc_ ss_ : Nat} : mv_kal S 95 [.ref 0, .int x] sh M K pc L st cc_ ss_ = K pc L ((some (.int (cnF M x)) : Option Value).toList ++ st) (sh) (M) cc_ ss_ := by
  refine q_kal (fun F => q_cali (fun Q => ?_))
  rw [hS]
  constructor
  · rintro ⟨x', hE, ⟨zp1, zp2⟩, hQ⟩
    simp only [List.cons.injEq, Value.ref.injEq, Value.int.injEq, Value.long.injEq, and_true, true_and] at hE
    subst hE
    exact hQ
  · intro hQ
    exact ⟨x, rfl, ⟨p1, p2⟩, hQ⟩
theorem ct95 {S : Nat → mv_Sp} (h20 : S 20 = sp20) (h94 : S 94 = sp94) : ∀ As sh M P, sp95 As sh M P → (mv_al0 As).length ≤ 2 ∧ mr95 S P 0 (mv_ent As 2) [] sh M 0 0 := by
  rintro As sh M P ⟨x, rfl, ⟨p1, p2⟩, hQ⟩
  refine ⟨Nat.le_of_ble_eq_true rfl, ?_⟩
  show mr95 S P 0 [some (.ref 0), some (.int x)] [] sh M 0 0
  have hl := p1.loom
  have hc := p1.cloth
  obtain ⟨n, hn, hN⟩ := id p2
  have n7 : n < 7 := by omega
  have h5 : lfF (fun t => M 19 (t * 5 + 2)) (M 3 0).toNatClampNeg = lfF (fun t => M (18 + 1) (t * 5 + 2)) n := by rw [hN, q_cl (show n < 2147483648 by omega)]
  unfold cnF at hQ
  rw [h5] at hQ
  by_cases c0 : x = nI 0
  · rw [if_pos c0] at hQ
    simp (disch := first | assumption | omega) only [e95_0, e95_1, e95_56, e95_57, e95_60, e95_63, e95_64, e95_65, e95_68, e95_71, e95_72, e95_73, e95_76, e95_79, e95_80, e95_81, e95_84, e95_87, e95_88, e95_89, e95_92, e95_95, e95_96, e95_97, e95_100, e95_101, e95_104, e95_107, e95_110, e95_111, e95_112, e95_115, e95_116, e95_117, e95_120, e95_121, e95_122, e95_125, e95_126, e95_127, e95_130, e95_133, e95_134, e95_135, q_gv0, q_gvs, q_isI1, q_isA1, q_hs0, q_hsn, q_hsi, q_hsr, q_hss, q_inc1, List.set_cons_zero, List.set_cons_succ, ↓reduceIte, q_ss0, q_ssi, q_ssr, q_nr0, q_nr10, q_nr11, q_tlS, q_tlN, q_cl, q_let, q_lef, q_ltt, q_ltf, q_eqt, q_eqf, q_add, q_mul, Nat.reduceAdd, Nat.reduceLeDiff, Nat.reduceEqDiff, eq_self, Nat.zero_le, Nat.le_refl, not_false_eq_true, not_true_eq_false, true_and, and_true, and_self, if_true, if_false, p1.g1, hl.g0, c0]
    exact hQ
  rw [if_neg c0] at hQ
  by_cases c1 : x = nI 1
  · rw [if_pos c1] at hQ
    simp (disch := first | assumption | omega) only [e95_0, e95_1, e95_56, e95_57, e95_60, e95_63, e95_64, e95_65, e95_68, e95_71, e95_72, e95_73, e95_76, e95_79, e95_80, e95_81, e95_84, e95_87, e95_88, e95_89, e95_92, e95_95, e95_96, e95_97, e95_100, e95_101, e95_104, e95_107, e95_110, e95_111, e95_112, e95_115, e95_116, e95_117, e95_120, e95_121, e95_122, e95_125, e95_126, e95_127, e95_130, e95_133, e95_134, e95_135, q_gv0, q_gvs, q_isI1, q_isA1, q_hs0, q_hsn, q_hsi, q_hsr, q_hss, q_inc1, List.set_cons_zero, List.set_cons_succ, ↓reduceIte, q_ss0, q_ssi, q_ssr, q_nr0, q_nr10, q_nr11, q_tlS, q_tlN, q_cl, q_let, q_lef, q_ltt, q_ltf, q_eqt, q_eqf, q_add, q_mul, Nat.reduceAdd, Nat.reduceLeDiff, Nat.reduceEqDiff, eq_self, Nat.zero_le, Nat.le_refl, not_false_eq_true, not_true_eq_false, true_and, and_true, and_self, if_true, if_false, p1.g1, hl.g1, c1]
    exact hQ
  rw [if_neg c1] at hQ
  by_cases c2 : x = nI 2
  · rw [if_pos c2] at hQ
    simp (disch := first | assumption | omega) only [e95_0, e95_1, e95_56, e95_57, e95_60, e95_63, e95_64, e95_65, e95_68, e95_71, e95_72, e95_73, e95_76, e95_79, e95_80, e95_81, e95_84, e95_87, e95_88, e95_89, e95_92, e95_95, e95_96, e95_97, e95_100, e95_101, e95_104, e95_107, e95_110, e95_111, e95_112, e95_115, e95_116, e95_117, e95_120, e95_121, e95_122, e95_125, e95_126, e95_127, e95_130, e95_133, e95_134, e95_135, q_gv0, q_gvs, q_isI1, q_isA1, q_hs0, q_hsn, q_hsi, q_hsr, q_hss, q_inc1, List.set_cons_zero, List.set_cons_succ, ↓reduceIte, q_ss0, q_ssi, q_ssr, q_nr0, q_nr10, q_nr11, q_tlS, q_tlN, q_cl, q_let, q_lef, q_ltt, q_ltf, q_eqt, q_eqf, q_add, q_mul, Nat.reduceAdd, Nat.reduceLeDiff, Nat.reduceEqDiff, eq_self, Nat.zero_le, Nat.le_refl, not_false_eq_true, not_true_eq_false, true_and, and_true, and_self, if_true, if_false, p1.g1, hl.g2, c2]
    exact hQ
  rw [if_neg c2] at hQ
  by_cases c3 : x = nI 3
  · rw [if_pos c3] at hQ
    simp (disch := first | assumption | omega) only [e95_0, e95_1, e95_56, e95_57, e95_60, e95_63, e95_64, e95_65, e95_68, e95_71, e95_72, e95_73, e95_76, e95_79, e95_80, e95_81, e95_84, e95_87, e95_88, e95_89, e95_92, e95_95, e95_96, e95_97, e95_100, e95_101, e95_104, e95_107, e95_110, e95_111, e95_112, e95_115, e95_116, e95_117, e95_120, e95_121, e95_122, e95_125, e95_126, e95_127, e95_130, e95_133, e95_134, e95_135, q_gv0, q_gvs, q_isI1, q_isA1, q_hs0, q_hsn, q_hsi, q_hsr, q_hss, q_inc1, List.set_cons_zero, List.set_cons_succ, ↓reduceIte, q_ss0, q_ssi, q_ssr, q_nr0, q_nr10, q_nr11, q_tlS, q_tlN, q_cl, q_let, q_lef, q_ltt, q_ltf, q_eqt, q_eqf, q_add, q_mul, Nat.reduceAdd, Nat.reduceLeDiff, Nat.reduceEqDiff, eq_self, Nat.zero_le, Nat.le_refl, not_false_eq_true, not_true_eq_false, true_and, and_true, and_self, if_true, if_false, p1.g1, hl.g3, c3]
    exact hQ
  rw [if_neg c3] at hQ
  by_cases c4 : x = nI 4
  · rw [if_pos c4] at hQ
    simp (disch := first | assumption | omega) only [e95_0, e95_1, e95_56, e95_57, e95_60, e95_63, e95_64, e95_65, e95_68, e95_71, e95_72, e95_73, e95_76, e95_79, e95_80, e95_81, e95_84, e95_87, e95_88, e95_89, e95_92, e95_95, e95_96, e95_97, e95_100, e95_101, e95_104, e95_107, e95_110, e95_111, e95_112, e95_115, e95_116, e95_117, e95_120, e95_121, e95_122, e95_125, e95_126, e95_127, e95_130, e95_133, e95_134, e95_135, q_gv0, q_gvs, q_isI1, q_isA1, q_hs0, q_hsn, q_hsi, q_hsr, q_hss, q_inc1, List.set_cons_zero, List.set_cons_succ, ↓reduceIte, q_ss0, q_ssi, q_ssr, q_nr0, q_nr10, q_nr11, q_tlS, q_tlN, q_cl, q_let, q_lef, q_ltt, q_ltf, q_eqt, q_eqf, q_add, q_mul, Nat.reduceAdd, Nat.reduceLeDiff, Nat.reduceEqDiff, eq_self, Nat.zero_le, Nat.le_refl, not_false_eq_true, not_true_eq_false, true_and, and_true, and_self, if_true, if_false, p1.g3, hc.g2, c4]
    exact hQ
  rw [if_neg c4] at hQ
  by_cases c5 : x = nI 5
  · rw [if_pos c5] at hQ
    simp (disch := first | assumption | omega) only [e95_0, e95_1, e95_56, e95_57, e95_60, e95_63, e95_64, e95_65, e95_68, e95_71, e95_72, e95_73, e95_76, e95_79, e95_80, e95_81, e95_84, e95_87, e95_88, e95_89, e95_92, e95_95, e95_96, e95_97, e95_100, e95_101, e95_104, e95_107, e95_110, e95_111, e95_112, e95_115, e95_116, e95_117, e95_120, e95_121, e95_122, e95_125, e95_126, e95_127, e95_130, e95_133, e95_134, e95_135, q_gv0, q_gvs, q_isI1, q_isA1, q_hs0, q_hsn, q_hsi, q_hsr, q_hss, q_inc1, List.set_cons_zero, List.set_cons_succ, ↓reduceIte, q_ss0, q_ssi, q_ssr, q_nr0, q_nr10, q_nr11, q_tlS, q_tlN, q_cl, q_let, q_lef, q_ltt, q_ltf, q_eqt, q_eqf, q_add, q_mul, Nat.reduceAdd, Nat.reduceLeDiff, Nat.reduceEqDiff, eq_self, Nat.zero_le, Nat.le_refl, not_false_eq_true, not_true_eq_false, true_and, and_true, and_self, if_true, if_false, p1.g1, p1.g3, hl.g0, hc.o, hN, cl94 h94, c5]
    exact hQ
  rw [if_neg c5] at hQ
  by_cases c6 : x = nI 6
  · rw [if_pos c6] at hQ
    simp (disch := first | assumption | omega) only [e95_0, e95_1, e95_56, e95_57, e95_60, e95_63, e95_64, e95_65, e95_68, e95_71, e95_72, e95_73, e95_76, e95_79, e95_80, e95_81, e95_84, e95_87, e95_88, e95_89, e95_92, e95_95, e95_96, e95_97, e95_100, e95_101, e95_104, e95_107, e95_110, e95_111, e95_112, e95_115, e95_116, e95_117, e95_120, e95_121, e95_122, e95_125, e95_126, e95_127, e95_130, e95_133, e95_134, e95_135, q_gv0, q_gvs, q_isI1, q_isA1, q_hs0, q_hsn, q_hsi, q_hsr, q_hss, q_inc1, List.set_cons_zero, List.set_cons_succ, ↓reduceIte, q_ss0, q_ssi, q_ssr, q_nr0, q_nr10, q_nr11, q_tlS, q_tlN, q_cl, q_let, q_lef, q_ltt, q_ltf, q_eqt, q_eqf, q_add, q_mul, Nat.reduceAdd, Nat.reduceLeDiff, Nat.reduceEqDiff, eq_self, Nat.zero_le, Nat.le_refl, not_false_eq_true, not_true_eq_false, true_and, and_true, and_self, if_true, if_false, p1.g11, c6]
    exact hQ
  rw [if_neg c6] at hQ
  by_cases c7 : x = nI 7
  · rw [if_pos c7] at hQ
    simp (disch := first | assumption | omega) only [e95_0, e95_1, e95_56, e95_57, e95_60, e95_63, e95_64, e95_65, e95_68, e95_71, e95_72, e95_73, e95_76, e95_79, e95_80, e95_81, e95_84, e95_87, e95_88, e95_89, e95_92, e95_95, e95_96, e95_97, e95_100, e95_101, e95_104, e95_107, e95_110, e95_111, e95_112, e95_115, e95_116, e95_117, e95_120, e95_121, e95_122, e95_125, e95_126, e95_127, e95_130, e95_133, e95_134, e95_135, q_gv0, q_gvs, q_isI1, q_isA1, q_hs0, q_hsn, q_hsi, q_hsr, q_hss, q_inc1, List.set_cons_zero, List.set_cons_succ, ↓reduceIte, q_ss0, q_ssi, q_ssr, q_nr0, q_nr10, q_nr11, q_tlS, q_tlN, q_cl, q_let, q_lef, q_ltt, q_ltf, q_eqt, q_eqf, q_add, q_mul, Nat.reduceAdd, Nat.reduceLeDiff, Nat.reduceEqDiff, eq_self, Nat.zero_le, Nat.le_refl, not_false_eq_true, not_true_eq_false, true_and, and_true, and_self, if_true, if_false, p1.g7, c7]
    exact hQ
  rw [if_neg c7] at hQ
  by_cases c8 : x = nI 8
  · rw [if_pos c8] at hQ
    simp (disch := first | assumption | omega) only [e95_0, e95_1, e95_56, e95_57, e95_60, e95_63, e95_64, e95_65, e95_68, e95_71, e95_72, e95_73, e95_76, e95_79, e95_80, e95_81, e95_84, e95_87, e95_88, e95_89, e95_92, e95_95, e95_96, e95_97, e95_100, e95_101, e95_104, e95_107, e95_110, e95_111, e95_112, e95_115, e95_116, e95_117, e95_120, e95_121, e95_122, e95_125, e95_126, e95_127, e95_130, e95_133, e95_134, e95_135, q_gv0, q_gvs, q_isI1, q_isA1, q_hs0, q_hsn, q_hsi, q_hsr, q_hss, q_inc1, List.set_cons_zero, List.set_cons_succ, ↓reduceIte, q_ss0, q_ssi, q_ssr, q_nr0, q_nr10, q_nr11, q_tlS, q_tlN, q_cl, q_let, q_lef, q_ltt, q_ltf, q_eqt, q_eqf, q_add, q_mul, Nat.reduceAdd, Nat.reduceLeDiff, Nat.reduceEqDiff, eq_self, Nat.zero_le, Nat.le_refl, not_false_eq_true, not_true_eq_false, true_and, and_true, and_self, if_true, if_false, p1.g9, c8]
    exact hQ
  rw [if_neg c8] at hQ
  by_cases c9 : x = nI 9
  · rw [if_pos c9] at hQ
    simp (disch := first | assumption | omega) only [e95_0, e95_1, e95_56, e95_57, e95_60, e95_63, e95_64, e95_65, e95_68, e95_71, e95_72, e95_73, e95_76, e95_79, e95_80, e95_81, e95_84, e95_87, e95_88, e95_89, e95_92, e95_95, e95_96, e95_97, e95_100, e95_101, e95_104, e95_107, e95_110, e95_111, e95_112, e95_115, e95_116, e95_117, e95_120, e95_121, e95_122, e95_125, e95_126, e95_127, e95_130, e95_133, e95_134, e95_135, q_gv0, q_gvs, q_isI1, q_isA1, q_hs0, q_hsn, q_hsi, q_hsr, q_hss, q_inc1, List.set_cons_zero, List.set_cons_succ, ↓reduceIte, q_ss0, q_ssi, q_ssr, q_nr0, q_nr10, q_nr11, q_tlS, q_tlN, q_cl, q_let, q_lef, q_ltt, q_ltf, q_eqt, q_eqf, q_add, q_mul, Nat.reduceAdd, Nat.reduceLeDiff, Nat.reduceEqDiff, eq_self, Nat.zero_le, Nat.le_refl, not_false_eq_true, not_true_eq_false, true_and, and_true, and_self, if_true, if_false, p1.g0, p1.o1, cl20 h20, c9]
    exact hQ
  rw [if_neg c9] at hQ
  simp (disch := first | assumption | omega) only [e95_0, e95_1, e95_56, e95_57, e95_60, e95_63, e95_64, e95_65, e95_68, e95_71, e95_72, e95_73, e95_76, e95_79, e95_80, e95_81, e95_84, e95_87, e95_88, e95_89, e95_92, e95_95, e95_96, e95_97, e95_100, e95_101, e95_104, e95_107, e95_110, e95_111, e95_112, e95_115, e95_116, e95_117, e95_120, e95_121, e95_122, e95_125, e95_126, e95_127, e95_130, e95_133, e95_134, e95_135, q_gv0, q_gvs, q_isI1, q_isA1, q_hs0, q_hsn, q_hsi, q_hsr, q_hss, q_inc1, List.set_cons_zero, List.set_cons_succ, ↓reduceIte, q_ss0, q_ssi, q_ssr, q_nr0, q_nr10, q_nr11, q_tlS, q_tlN, q_cl, q_let, q_lef, q_ltt, q_ltf, q_eqt, q_eqf, q_add, q_mul, Nat.reduceAdd, Nat.reduceLeDiff, Nat.reduceEqDiff, eq_self, Nat.zero_le, Nat.le_refl, not_false_eq_true, not_true_eq_false, true_and, and_true, and_self, if_true, if_false, c0, c1, c2, c3, c4, c5, c6, c7, c8, c9]
  exact hQ
