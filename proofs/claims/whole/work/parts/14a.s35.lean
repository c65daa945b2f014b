/-! the rest of the class: what is asked of tablets, weaving, turning, the text -/
def sp98 : mv_Sp := fun As sh M Q => As = [.ref 0] ∧ ((oX sh) ∧ (tX M) ∧ (gL M 11)) ∧ Q (some (.int (tdM M).1)) (sh) ((tdM M).2)
theorem cl98 {S : Nat → mv_Sp} (hS : S 98 = sp98) {sh : mv_Shp} {M : mv_Mem}  (p1 : oX sh) (p2 : tX M) (p3 : gL M 11) {K : mv_Kt} {pc : Nat} {L : mv_Loc} {st : List Value} {cc_ ss_ : Nat} : mv_kal S 98 [.ref 0] sh M K pc L st cc_ ss_ = K pc L ((some (.int (tdM M).1) : Option Value).toList ++ st) (sh) ((tdM M).2) cc_ ss_ := by
  refine q_kal (fun F => q_cali (fun Q => ?_))
  rw [hS]
  constructor
  · rintro ⟨hE, ⟨zp1, zp2, zp3⟩, hQ⟩
    exact hQ
  · intro hQ
    exact ⟨rfl, ⟨p1, p2, p3⟩, hQ⟩
theorem ct98 {S : Nat → mv_Sp} (h40 : S 40 = sp40) : ∀ As sh M P, sp98 As sh M P → (mv_al0 As).length ≤ 1 ∧ mr98 S P 0 (mv_ent As 1) [] sh M 0 0 := by
  rintro As sh M P ⟨rfl, ⟨p1, p2, p3⟩, hQ⟩
  refine ⟨Nat.le_of_ble_eq_true rfl, ?_⟩
  show mr98 S P 0 [some (.ref 0)] [] sh M 0 0
  have e0 : rtF 200 (rt0 M) = tdM M := rfl
  simp (disch := first | assumption | omega) only [e98_0, e98_1, e98_4, e98_7, q_gv0, q_gvs, q_isI1, q_isA1, q_hs0, q_hsn, q_hsi, q_hsr, q_hss, q_inc1, List.set_cons_zero, List.set_cons_succ, ↓reduceIte, q_ss0, q_ssi, q_ssr, q_nr0, q_nr10, q_nr11, q_tlS, q_tlN, q_cl, q_let, q_lef, q_ltt, q_ltf, q_eqt, q_eqf, q_add, q_mul, Nat.reduceAdd, Nat.reduceLeDiff, Nat.reduceEqDiff, eq_self, Nat.zero_le, Nat.le_refl, not_false_eq_true, not_true_eq_false, true_and, and_true, and_self, if_true, if_false, p1.g2, p1.o10, cl40 h40, e0]
  exact hQ
def sp90 : mv_Sp := fun As sh M Q => As = [.ref 0] ∧ ((oX sh) ∧ (gL M 3) ∧ (sT M 57) ∧ (∃ k, k < 4096 ∧ tpX M 18 = nI k)) ∧ Q (some (.int (ctM (rcM M 57 3 (tpX M 18).toNatClampNeg ((nI 1 <<< (M 3 1 &&& 31)) - nI 1)) 57 3 57 3))) (sh) (ctM (rcM M 57 3 (tpX M 18).toNatClampNeg ((nI 1 <<< (M 3 1 &&& 31)) - nI 1)) 57 3)
theorem cl90 {S : Nat → mv_Sp} (hS : S 90 = sp90) {sh : mv_Shp} {M : mv_Mem}  (p1 : oX sh) (p2 : gL M 3) (p3 : sT M 57) (p4 : ∃ k, k < 4096 ∧ tpX M 18 = nI k) {K : mv_Kt} {pc : Nat} {L : mv_Loc} {st : List Value} {cc_ ss_ : Nat} : mv_kal S 90 [.ref 0] sh M K pc L st cc_ ss_ = K pc L ((some (.int (ctM (rcM M 57 3 (tpX M 18).toNatClampNeg ((nI 1 <<< (M 3 1 &&& 31)) - nI 1)) 57 3 57 3)) : Option Value).toList ++ st) (sh) (ctM (rcM M 57 3 (tpX M 18).toNatClampNeg ((nI 1 <<< (M 3 1 &&& 31)) - nI 1)) 57 3) cc_ ss_ := by
  refine q_kal (fun F => q_cali (fun Q => ?_))
  rw [hS]
  constructor
  · rintro ⟨hE, ⟨zp1, zp2, zp3, zp4⟩, hQ⟩
    exact hQ
  · intro hQ
    exact ⟨rfl, ⟨p1, p2, p3, p4⟩, hQ⟩
theorem ct90 {S : Nat → mv_Sp} (h66 : S 66 = sp66) (h72 : S 72 = sp72) (h87 : S 87 = sp87) (h89 : S 89 = sp89) : ∀ As sh M P, sp90 As sh M P → (mv_al0 As).length ≤ 1 ∧ mr90 S P 0 (mv_ent As 1) [] sh M 0 0 := by
  rintro As sh M P ⟨rfl, ⟨p1, p2, p3, p4⟩, hQ⟩
  refine ⟨Nat.le_of_ble_eq_true rfl, ?_⟩
  show mr90 S P 0 [some (.ref 0)] [] sh M 0 0
  obtain ⟨k, hk, hK⟩ := id p4
  have hl := p1.loom
  have hs := p1.sea
  have hc := p1.cloth
  rw [hK, q_cl (show k < 2147483648 by omega)] at hQ
  have g1 := gL_rc (x := k) (y := (nI 1 <<< (M 3 1 &&& 31)) - nI 1) p2 (show 3 + 6 < 57 by decide)
  have g2 := sL_rcM (y := (nI 1 <<< (M 3 1 &&& 31)) - nI 1) p3 p2 hk
  simp (disch := first | assumption | omega) only [e90_0, e90_1, e90_4, e90_5, e90_8, e90_9, e90_12, e90_15, e90_16, e90_19, e90_22, e90_23, e90_26, e90_27, e90_30, e90_33, q_gv0, q_gvs, q_isI1, q_isA1, q_hs0, q_hsn, q_hsi, q_hsr, q_hss, q_inc1, List.set_cons_zero, List.set_cons_succ, ↓reduceIte, q_ss0, q_ssi, q_ssr, q_nr0, q_nr10, q_nr11, q_tlS, q_tlN, q_cl, q_let, q_lef, q_ltt, q_ltf, q_eqt, q_eqf, q_add, q_mul, Nat.reduceAdd, Nat.reduceLeDiff, Nat.reduceEqDiff, eq_self, Nat.zero_le, Nat.le_refl, not_false_eq_true, not_true_eq_false, true_and, and_true, and_self, if_true, if_false, p1.g1, p1.g3, p1.g12, p1.o, hs.o, hc.o, hK, cr66 h66, cl72 h72, cl87 h87, cl89 h89]
  exact hQ
def tbX (M : mv_Mem) (t : Nat) (y : Int32) : Int32 :=
  if y = nI 0 then M 4 t else if y = nI 1 then M 19 (t * 5 + 3) else if y = nI 2 then M 19 (t * 5 + 0) else if y = nI 3 then M 6 (t * 4 + (M 19 (t * 5 + 0)).toNatClampNeg)
  else if y = nI 4 then M 19 (t * 5 + 1) + nI 40 else if y = nI 5 then M 19 (t * 5 + 2) else if y = nI 6 then snF M 18 t else Int32.ofInt (-1)
theorem cr68 {S : Nat → mv_Sp} (h : S 68 = sp68) {sh : mv_Shp} {M : mv_Mem} {a t : Nat} {K : mv_Kt} {pc : Nat} {L : mv_Loc} {st : List Value} {c s : Nat} (p1 : oC sh a) (p2 : t < 6) :
    mv_kal S 68 [.ref a, .int (nI t)] sh M K pc L st c s = K pc L ((some (.int (snF M a t))).toList ++ st) sh M c s := cl68 h p1 p2
def sp127 : mv_Sp := fun As sh M Q => ∃ (x : Int32) (y : Int32), As = [.ref 0, .int x, .int y] ∧ ((oX sh) ∧ (∃ n, n ≤ 6 ∧ M 3 0 = nI n) ∧ (∀ t, t < 6 → ∃ h, h < 4 ∧ M 19 (t * 5 + 0) = nI h)) ∧ Q (some (.int (if x < nI 0 then Int32.ofInt (-1) else if M 3 0 ≤ x then Int32.ofInt (-1) else tbX M x.toNatClampNeg y))) (sh) (M)
theorem cl127 {S : Nat → mv_Sp} (hS : S 127 = sp127) {sh : mv_Shp} {M : mv_Mem} {x : Int32} {y : Int32} (p1 : oX sh) (p2 : ∃ n, n ≤ 6 ∧ M 3 0 = nI n) (p3 : ∀ t, t < 6 → ∃ h, h < 4 ∧ M 19 (t * 5 + 0) = nI h) {K : mv_Kt} {pc : Nat} {L : mv_Loc} {st : List Value} {cc_ ss_ : Nat} : mv_kal S 127 [.ref 0, .int x, .int y] sh M K pc L st cc_ ss_ = K pc L ((some (.int (if x < nI 0 then Int32.ofInt (-1) else if M 3 0 ≤ x then Int32.ofInt (-1) else tbX M x.toNatClampNeg y)) : Option Value).toList ++ st) (sh) (M) cc_ ss_ := by
  refine q_kal (fun F => q_cali (fun Q => ?_))
  rw [hS]
  constructor
  · rintro ⟨x', y', hE, ⟨zp1, zp2, zp3⟩, hQ⟩
    simp only [List.cons.injEq, Value.ref.injEq, Value.int.injEq, Value.long.injEq, and_true, true_and] at hE
    obtain ⟨rfl, rfl⟩ := hE
    exact hQ
  · intro hQ
    exact ⟨x, y, rfl, ⟨p1, p2, p3⟩, hQ⟩
theorem ct127 {S : Nat → mv_Sp} (h29 : S 29 = sp29) (h59 : S 59 = sp59) (h61 : S 61 = sp61) (h68 : S 68 = sp68) (h91 : S 91 = sp91) : ∀ As sh M P, sp127 As sh M P → (mv_al0 As).length ≤ 3 ∧ mr127 S P 0 (mv_ent As 3) [] sh M 0 0 := by
  rintro As sh M P ⟨x, y, rfl, ⟨p1, p2, p3⟩, hQ⟩
  refine ⟨Nat.le_of_ble_eq_true rfl, ?_⟩
  show mr127 S P 0 [some (.ref 0), some (.int x), some (.int y)] [] sh M 0 0
  have hl := p1.loom
  have hc := p1.cloth
  obtain ⟨n, hn, hN⟩ := id p2
  rcases i32_c x with c1 | ⟨k, hk, rfl⟩
  · simp only [c1, if_true] at hQ
    simp (disch := first | assumption | omega) only [e127_0, e127_1, e127_2, e127_5, e127_8, e127_9, e127_10, e127_11, e127_52, e127_53, e127_56, e127_57, e127_60, e127_61, e127_62, e127_65, e127_66, e127_67, e127_70, e127_71, e127_72, e127_75, e127_76, e127_77, e127_80, e127_81, e127_82, e127_85, e127_86, e127_87, e127_90, e127_91, e127_92, e127_95, e127_98, e127_99, e127_100, e127_103, e127_104, e127_105, e127_108, e127_110, e127_111, e127_112, e127_113, e127_116, e127_117, e127_118, e127_121, e127_122, e127_123, e127_126, e127_127, e127_130, e127_131, e127_132, q_gv0, q_gvs, q_isI1, q_isA1, q_hs0, q_hsn, q_hsi, q_hsr, q_hss, q_inc1, List.set_cons_zero, List.set_cons_succ, ↓reduceIte, q_ss0, q_ssi, q_ssr, q_nr0, q_nr10, q_nr11, q_tlS, q_tlN, q_cl, q_let, q_lef, q_ltt, q_ltf, q_eqt, q_eqf, q_add, q_mul, Nat.reduceAdd, Nat.reduceLeDiff, Nat.reduceEqDiff, eq_self, Nat.zero_le, Nat.le_refl, not_false_eq_true, not_true_eq_false, true_and, and_true, and_self, if_true, if_false, p1.o, cl91 h91, c1]
    exact hQ
  have c1 : (nI k < nI 0) = False := q_ltf (by omega) hk
  simp only [c1, if_false] at hQ
  by_cases c2 : n ≤ k
  · have c3 : (nI n ≤ nI k) = True := q_let c2 hk
    simp only [hN, c3, if_true] at hQ
    simp (disch := first | assumption | omega) only [e127_0, e127_1, e127_2, e127_5, e127_8, e127_9, e127_10, e127_11, e127_52, e127_53, e127_56, e127_57, e127_60, e127_61, e127_62, e127_65, e127_66, e127_67, e127_70, e127_71, e127_72, e127_75, e127_76, e127_77, e127_80, e127_81, e127_82, e127_85, e127_86, e127_87, e127_90, e127_91, e127_92, e127_95, e127_98, e127_99, e127_100, e127_103, e127_104, e127_105, e127_108, e127_110, e127_111, e127_112, e127_113, e127_116, e127_117, e127_118, e127_121, e127_122, e127_123, e127_126, e127_127, e127_130, e127_131, e127_132, q_gv0, q_gvs, q_isI1, q_isA1, q_hs0, q_hsn, q_hsi, q_hsr, q_hss, q_inc1, List.set_cons_zero, List.set_cons_succ, ↓reduceIte, q_ss0, q_ssi, q_ssr, q_nr0, q_nr10, q_nr11, q_tlS, q_tlN, q_cl, q_let, q_lef, q_ltt, q_ltf, q_eqt, q_eqf, q_add, q_mul, Nat.reduceAdd, Nat.reduceLeDiff, Nat.reduceEqDiff, eq_self, Nat.zero_le, Nat.le_refl, not_false_eq_true, not_true_eq_false, true_and, and_true, and_self, if_true, if_false, p1.o, cl91 h91, c1, hN, c3]
    exact hQ
  have c3 : (nI n ≤ nI k) = False := q_lef (by omega) (by omega)
  simp only [hN, c3, if_false, q_cl hk] at hQ
  have k6 : k < 6 := by omega
  unfold tbX at hQ
  by_cases d0 : y = nI 0
  · rw [if_pos d0] at hQ
    simp (disch := first | assumption | omega) only [e127_0, e127_1, e127_2, e127_5, e127_8, e127_9, e127_10, e127_11, e127_52, e127_53, e127_56, e127_57, e127_60, e127_61, e127_62, e127_65, e127_66, e127_67, e127_70, e127_71, e127_72, e127_75, e127_76, e127_77, e127_80, e127_81, e127_82, e127_85, e127_86, e127_87, e127_90, e127_91, e127_92, e127_95, e127_98, e127_99, e127_100, e127_103, e127_104, e127_105, e127_108, e127_110, e127_111, e127_112, e127_113, e127_116, e127_117, e127_118, e127_121, e127_122, e127_123, e127_126, e127_127, e127_130, e127_131, e127_132, q_gv0, q_gvs, q_isI1, q_isA1, q_hs0, q_hsn, q_hsi, q_hsr, q_hss, q_inc1, List.set_cons_zero, List.set_cons_succ, ↓reduceIte, q_ss0, q_ssi, q_ssr, q_nr0, q_nr10, q_nr11, q_tlS, q_tlN, q_cl, q_let, q_lef, q_ltt, q_ltf, q_eqt, q_eqf, q_add, q_mul, Nat.reduceAdd, Nat.reduceLeDiff, Nat.reduceEqDiff, eq_self, Nat.zero_le, Nat.le_refl, not_false_eq_true, not_true_eq_false, true_and, and_true, and_self, if_true, if_false, p1.o, p1.g1, p1.g3, hl.o, hc.o, cl91 h91, c1, hN, c3, cl59 h59, d0]
    exact hQ
  rw [if_neg d0] at hQ
  by_cases d1 : y = nI 1
  · rw [if_pos d1] at hQ
    simp (disch := first | assumption | omega) only [e127_0, e127_1, e127_2, e127_5, e127_8, e127_9, e127_10, e127_11, e127_52, e127_53, e127_56, e127_57, e127_60, e127_61, e127_62, e127_65, e127_66, e127_67, e127_70, e127_71, e127_72, e127_75, e127_76, e127_77, e127_80, e127_81, e127_82, e127_85, e127_86, e127_87, e127_90, e127_91, e127_92, e127_95, e127_98, e127_99, e127_100, e127_103, e127_104, e127_105, e127_108, e127_110, e127_111, e127_112, e127_113, e127_116, e127_117, e127_118, e127_121, e127_122, e127_123, e127_126, e127_127, e127_130, e127_131, e127_132, q_gv0, q_gvs, q_isI1, q_isA1, q_hs0, q_hsn, q_hsi, q_hsr, q_hss, q_inc1, List.set_cons_zero, List.set_cons_succ, ↓reduceIte, q_ss0, q_ssi, q_ssr, q_nr0, q_nr10, q_nr11, q_tlS, q_tlN, q_cl, q_let, q_lef, q_ltt, q_ltf, q_eqt, q_eqf, q_add, q_mul, Nat.reduceAdd, Nat.reduceLeDiff, Nat.reduceEqDiff, eq_self, Nat.zero_le, Nat.le_refl, not_false_eq_true, not_true_eq_false, true_and, and_true, and_self, if_true, if_false, p1.o, p1.g1, p1.g3, hl.o, hc.o, cl91 h91, c1, hN, c3, cl61 h61, d1]
    exact hQ
  rw [if_neg d1] at hQ
  by_cases d2 : y = nI 2
  · rw [if_pos d2] at hQ
    simp (disch := first | assumption | omega) only [e127_0, e127_1, e127_2, e127_5, e127_8, e127_9, e127_10, e127_11, e127_52, e127_53, e127_56, e127_57, e127_60, e127_61, e127_62, e127_65, e127_66, e127_67, e127_70, e127_71, e127_72, e127_75, e127_76, e127_77, e127_80, e127_81, e127_82, e127_85, e127_86, e127_87, e127_90, e127_91, e127_92, e127_95, e127_98, e127_99, e127_100, e127_103, e127_104, e127_105, e127_108, e127_110, e127_111, e127_112, e127_113, e127_116, e127_117, e127_118, e127_121, e127_122, e127_123, e127_126, e127_127, e127_130, e127_131, e127_132, q_gv0, q_gvs, q_isI1, q_isA1, q_hs0, q_hsn, q_hsi, q_hsr, q_hss, q_inc1, List.set_cons_zero, List.set_cons_succ, ↓reduceIte, q_ss0, q_ssi, q_ssr, q_nr0, q_nr10, q_nr11, q_tlS, q_tlN, q_cl, q_let, q_lef, q_ltt, q_ltf, q_eqt, q_eqf, q_add, q_mul, Nat.reduceAdd, Nat.reduceLeDiff, Nat.reduceEqDiff, eq_self, Nat.zero_le, Nat.le_refl, not_false_eq_true, not_true_eq_false, true_and, and_true, and_self, if_true, if_false, p1.o, p1.g1, p1.g3, hl.o, hc.o, cl91 h91, c1, hN, c3, cl61 h61, d2]
    exact hQ
  rw [if_neg d2] at hQ
  by_cases d3 : y = nI 3
  · obtain ⟨q, hq, hq2⟩ := p3 k k6
    rw [if_pos d3, hq2, q_cl (show q < 2147483648 by omega)] at hQ
    simp (disch := first | assumption | omega) only [e127_0, e127_1, e127_2, e127_5, e127_8, e127_9, e127_10, e127_11, e127_52, e127_53, e127_56, e127_57, e127_60, e127_61, e127_62, e127_65, e127_66, e127_67, e127_70, e127_71, e127_72, e127_75, e127_76, e127_77, e127_80, e127_81, e127_82, e127_85, e127_86, e127_87, e127_90, e127_91, e127_92, e127_95, e127_98, e127_99, e127_100, e127_103, e127_104, e127_105, e127_108, e127_110, e127_111, e127_112, e127_113, e127_116, e127_117, e127_118, e127_121, e127_122, e127_123, e127_126, e127_127, e127_130, e127_131, e127_132, q_gv0, q_gvs, q_isI1, q_isA1, q_hs0, q_hsn, q_hsi, q_hsr, q_hss, q_inc1, List.set_cons_zero, List.set_cons_succ, ↓reduceIte, q_ss0, q_ssi, q_ssr, q_nr0, q_nr10, q_nr11, q_tlS, q_tlN, q_cl, q_let, q_lef, q_ltt, q_ltf, q_eqt, q_eqf, q_add, q_mul, Nat.reduceAdd, Nat.reduceLeDiff, Nat.reduceEqDiff, eq_self, Nat.zero_le, Nat.le_refl, not_false_eq_true, not_true_eq_false, true_and, and_true, and_self, if_true, if_false, p1.o, p1.g1, p1.g3, hl.o, hc.o, cl91 h91, c1, hN, c3, cl61 h61, cl29 h29, hq2, d3]
    exact hQ
  rw [if_neg d3] at hQ
  by_cases d4 : y = nI 4
  · rw [if_pos d4] at hQ
    simp (disch := first | assumption | omega) only [e127_0, e127_1, e127_2, e127_5, e127_8, e127_9, e127_10, e127_11, e127_52, e127_53, e127_56, e127_57, e127_60, e127_61, e127_62, e127_65, e127_66, e127_67, e127_70, e127_71, e127_72, e127_75, e127_76, e127_77, e127_80, e127_81, e127_82, e127_85, e127_86, e127_87, e127_90, e127_91, e127_92, e127_95, e127_98, e127_99, e127_100, e127_103, e127_104, e127_105, e127_108, e127_110, e127_111, e127_112, e127_113, e127_116, e127_117, e127_118, e127_121, e127_122, e127_123, e127_126, e127_127, e127_130, e127_131, e127_132, q_gv0, q_gvs, q_isI1, q_isA1, q_hs0, q_hsn, q_hsi, q_hsr, q_hss, q_inc1, List.set_cons_zero, List.set_cons_succ, ↓reduceIte, q_ss0, q_ssi, q_ssr, q_nr0, q_nr10, q_nr11, q_tlS, q_tlN, q_cl, q_let, q_lef, q_ltt, q_ltf, q_eqt, q_eqf, q_add, q_mul, Nat.reduceAdd, Nat.reduceLeDiff, Nat.reduceEqDiff, eq_self, Nat.zero_le, Nat.le_refl, not_false_eq_true, not_true_eq_false, true_and, and_true, and_self, if_true, if_false, p1.o, p1.g1, p1.g3, hl.o, hc.o, cl91 h91, c1, hN, c3, cl61 h61, d4]
    exact hQ
  rw [if_neg d4] at hQ
  by_cases d5 : y = nI 5
  · rw [if_pos d5] at hQ
    simp (disch := first | assumption | omega) only [e127_0, e127_1, e127_2, e127_5, e127_8, e127_9, e127_10, e127_11, e127_52, e127_53, e127_56, e127_57, e127_60, e127_61, e127_62, e127_65, e127_66, e127_67, e127_70, e127_71, e127_72, e127_75, e127_76, e127_77, e127_80, e127_81, e127_82, e127_85, e127_86, e127_87, e127_90, e127_91, e127_92, e127_95, e127_98, e127_99, e127_100, e127_103, e127_104, e127_105, e127_108, e127_110, e127_111, e127_112, e127_113, e127_116, e127_117, e127_118, e127_121, e127_122, e127_123, e127_126, e127_127, e127_130, e127_131, e127_132, q_gv0, q_gvs, q_isI1, q_isA1, q_hs0, q_hsn, q_hsi, q_hsr, q_hss, q_inc1, List.set_cons_zero, List.set_cons_succ, ↓reduceIte, q_ss0, q_ssi, q_ssr, q_nr0, q_nr10, q_nr11, q_tlS, q_tlN, q_cl, q_let, q_lef, q_ltt, q_ltf, q_eqt, q_eqf, q_add, q_mul, Nat.reduceAdd, Nat.reduceLeDiff, Nat.reduceEqDiff, eq_self, Nat.zero_le, Nat.le_refl, not_false_eq_true, not_true_eq_false, true_and, and_true, and_self, if_true, if_false, p1.o, p1.g1, p1.g3, hl.o, hc.o, cl91 h91, c1, hN, c3, cl61 h61, d5]
    exact hQ
  rw [if_neg d5] at hQ
  by_cases d6 : y = nI 6
  · rw [if_pos d6] at hQ
    simp (disch := first | assumption | omega) only [e127_0, e127_1, e127_2, e127_5, e127_8, e127_9, e127_10, e127_11, e127_52, e127_53, e127_56, e127_57, e127_60, e127_61, e127_62, e127_65, e127_66, e127_67, e127_70, e127_71, e127_72, e127_75, e127_76, e127_77, e127_80, e127_81, e127_82, e127_85, e127_86, e127_87, e127_90, e127_91, e127_92, e127_95, e127_98, e127_99, e127_100, e127_103, e127_104, e127_105, e127_108, e127_110, e127_111, e127_112, e127_113, e127_116, e127_117, e127_118, e127_121, e127_122, e127_123, e127_126, e127_127, e127_130, e127_131, e127_132, q_gv0, q_gvs, q_isI1, q_isA1, q_hs0, q_hsn, q_hsi, q_hsr, q_hss, q_inc1, List.set_cons_zero, List.set_cons_succ, ↓reduceIte, q_ss0, q_ssi, q_ssr, q_nr0, q_nr10, q_nr11, q_tlS, q_tlN, q_cl, q_let, q_lef, q_ltt, q_ltf, q_eqt, q_eqf, q_add, q_mul, Nat.reduceAdd, Nat.reduceLeDiff, Nat.reduceEqDiff, eq_self, Nat.zero_le, Nat.le_refl, not_false_eq_true, not_true_eq_false, true_and, and_true, and_self, if_true, if_false, p1.o, p1.g1, p1.g3, hl.o, hc.o, cl91 h91, c1, hN, c3, cr68 h68, d6]
    exact hQ
  rw [if_neg d6] at hQ
  simp (disch := first | assumption | omega) only [e127_0, e127_1, e127_2, e127_5, e127_8, e127_9, e127_10, e127_11, e127_52, e127_53, e127_56, e127_57, e127_60, e127_61, e127_62, e127_65, e127_66, e127_67, e127_70, e127_71, e127_72, e127_75, e127_76, e127_77, e127_80, e127_81, e127_82, e127_85, e127_86, e127_87, e127_90, e127_91, e127_92, e127_95, e127_98, e127_99, e127_100, e127_103, e127_104, e127_105, e127_108, e127_110, e127_111, e127_112, e127_113, e127_116, e127_117, e127_118, e127_121, e127_122, e127_123, e127_126, e127_127, e127_130, e127_131, e127_132, q_gv0, q_gvs, q_isI1, q_isA1, q_hs0, q_hsn, q_hsi, q_hsr, q_hss, q_inc1, List.set_cons_zero, List.set_cons_succ, ↓reduceIte, q_ss0, q_ssi, q_ssr, q_nr0, q_nr10, q_nr11, q_tlS, q_tlN, q_cl, q_let, q_lef, q_ltt, q_ltf, q_eqt, q_eqf, q_add, q_mul, Nat.reduceAdd, Nat.reduceLeDiff, Nat.reduceEqDiff, eq_self, Nat.zero_le, Nat.le_refl, not_false_eq_true, not_true_eq_false, true_and, and_true, and_self, if_true, if_false, p1.o, cl91 h91, c1, hN, c3, d0, d1, d2, d3, d4, d5, d6]
  exact hQ
theorem way_c (y : Int32) : (∃ w, w < 2 ∧ y = nI w) ∨ (¬ y = nI 0 ∧ ¬ y = nI 1) := by
  by_cases c0 : y = nI 0
  · exact Or.inl ⟨0, by decide, c0⟩
  by_cases c1 : y = nI 1
  · exact Or.inl ⟨1, by decide, c1⟩
  exact Or.inr ⟨c0, c1⟩
theorem way_t {w : Nat} (h : w < 2) {a b : Int32} : (if nI w = nI 0 then a else if nI w = nI 1 then a else b) = a := by
  rcases (show w = 0 ∨ w = 1 by omega) with rfl | rfl
  · rfl
  · rw [if_neg (by decide), if_pos rfl]
/-- turned by hand -/
def trX (M : mv_Mem) (t w : Nat) : mv_Mem := if ocF (M 4 t).toNatClampNeg w (M 19 (t * 5 + 1)) (M 3 3) = 2 then M else if ocF (M 4 t).toNatClampNeg w (M 19 (t * 5 + 1)) (M 3 3) = 0 then tmM (rmM M) 18 t (qf (M 4 t).toNatClampNeg w) else rmM M
def sp129 : mv_Sp := fun As sh M Q => ∃ (x : Int32) (y : Int32), As = [.ref 0, .int x, .int y] ∧ ((oX sh) ∧ (gL M 3) ∧ (∃ e, e < 8 ∧ M 0 6 &&& nI 7 = nI e) ∧ (∃ n, n < 9 ∧ M 0 7 = nI n) ∧ (∃ r, r < 25 ∧ M 18 2 = nI r)) ∧ Q (some (.int (if x < nI 0 then Int32.ofInt (-1) else if M 3 0 ≤ x then Int32.ofInt (-1) else if ¬ y = nI 0 ∧ ¬ y = nI 1 then Int32.ofInt (-1) else if ocF (M 4 x.toNatClampNeg).toNatClampNeg y.toNatClampNeg (M 19 (x.toNatClampNeg * 5 + 1)) (M 3 3) = 2 then Int32.ofInt (-2) else trX M x.toNatClampNeg y.toNatClampNeg 19 (x.toNatClampNeg * 5 + 0)))) (sh) (if x < nI 0 then M else if M 3 0 ≤ x then M else if ¬ y = nI 0 ∧ ¬ y = nI 1 then M else trX M x.toNatClampNeg y.toNatClampNeg)
theorem cl129 {S : Nat → mv_Sp} (hS : S 129 = sp129) {sh : mv_Shp} {M : mv_Mem} {x : Int32} {y : Int32} (p1 : oX sh) (p2 : gL M 3) (p3 : ∃ e, e < 8 ∧ M 0 6 &&& nI 7 = nI e) (p4 : ∃ n, n < 9 ∧ M 0 7 = nI n) (p5 : ∃ r, r < 25 ∧ M 18 2 = nI r) {K : mv_Kt} {pc : Nat} {L : mv_Loc} {st : List Value} {cc_ ss_ : Nat} : mv_kal S 129 [.ref 0, .int x, .int y] sh M K pc L st cc_ ss_ = K pc L ((some (.int (if x < nI 0 then Int32.ofInt (-1) else if M 3 0 ≤ x then Int32.ofInt (-1) else if ¬ y = nI 0 ∧ ¬ y = nI 1 then Int32.ofInt (-1) else if ocF (M 4 x.toNatClampNeg).toNatClampNeg y.toNatClampNeg (M 19 (x.toNatClampNeg * 5 + 1)) (M 3 3) = 2 then Int32.ofInt (-2) else trX M x.toNatClampNeg y.toNatClampNeg 19 (x.toNatClampNeg * 5 + 0))) : Option Value).toList ++ st) (sh) (if x < nI 0 then M else if M 3 0 ≤ x then M else if ¬ y = nI 0 ∧ ¬ y = nI 1 then M else trX M x.toNatClampNeg y.toNatClampNeg) cc_ ss_ := by
  refine q_kal (fun F => q_cali (fun Q => ?_))
  rw [hS]
  constructor
  · rintro ⟨x', y', hE, ⟨zp1, zp2, zp3, zp4, zp5⟩, hQ⟩
    simp only [List.cons.injEq, Value.ref.injEq, Value.int.injEq, Value.long.injEq, and_true, true_and] at hE
    obtain ⟨rfl, rfl⟩ := hE
    exact hQ
  · intro hQ
    exact ⟨x, y, rfl, ⟨p1, p2, p3, p4, p5⟩, hQ⟩
theorem ct129 {S : Nat → mv_Sp} (h53 : S 53 = sp53) (h61 : S 61 = sp61) (h62 : S 62 = sp62) (h63 : S 63 = sp63) (h91 : S 91 = sp91) (h108 : S 108 = sp108) : ∀ As sh M P, sp129 As sh M P → (mv_al0 As).length ≤ 3 ∧ mr129 S P 0 (mv_ent As 3) [] sh M 0 0 := by
  rintro As sh M P ⟨x, y, rfl, ⟨p1, p2, p3, p4, p5⟩, hQ⟩
  refine ⟨Nat.le_of_ble_eq_true rfl, ?_⟩
  show mr129 S P 0 [some (.ref 0), some (.int x), some (.int y)] [] sh M 0 0
  have hl := p1.loom
  have hc := p1.cloth
  obtain ⟨n, hn, hN⟩ := p2.1
  rcases i32_c x with c1 | ⟨k, hk, rfl⟩
  · simp only [c1, if_true] at hQ
    simp (disch := first | assumption | omega) only [e129_0, e129_1, e129_2, e129_5, e129_8, e129_9, e129_12, e129_15, e129_16, e129_17, e129_18, e129_21, e129_22, e129_25, e129_26, e129_27, e129_30, e129_31, e129_34, e129_36, e129_37, e129_38, e129_41, e129_42, e129_45, e129_46, e129_49, e129_50, e129_51, e129_54, e129_54r, e129_55, e129_56, e129_59, e129_60, e129_61, e129_64, q_gv0, q_gvs, q_isI1, q_isA1, q_hs0, q_hsn, q_hsi, q_hsr, q_hss, q_inc1, List.set_cons_zero, List.set_cons_succ, ↓reduceIte, q_ss0, q_ssi, q_ssr, q_nr0, q_nr10, q_nr11, q_tlS, q_tlN, q_cl, q_let, q_lef, q_ltt, q_ltf, q_eqt, q_eqf, q_add, q_mul, Nat.reduceAdd, Nat.reduceLeDiff, Nat.reduceEqDiff, eq_self, Nat.zero_le, Nat.le_refl, not_false_eq_true, not_true_eq_false, true_and, and_true, and_self, if_true, if_false, p1.o, cl91 h91, c1]
    exact hQ
  have c1 : (nI k < nI 0) = False := q_ltf (by omega) hk
  simp only [c1, if_false] at hQ
  by_cases c2 : n ≤ k
  · have c3 : (nI n ≤ nI k) = True := q_let c2 hk
    simp only [hN, c3, if_true] at hQ
    simp (disch := first | assumption | omega) only [e129_0, e129_1, e129_2, e129_5, e129_8, e129_9, e129_12, e129_15, e129_16, e129_17, e129_18, e129_21, e129_22, e129_25, e129_26, e129_27, e129_30, e129_31, e129_34, e129_36, e129_37, e129_38, e129_41, e129_42, e129_45, e129_46, e129_49, e129_50, e129_51, e129_54, e129_54r, e129_55, e129_56, e129_59, e129_60, e129_61, e129_64, q_gv0, q_gvs, q_isI1, q_isA1, q_hs0, q_hsn, q_hsi, q_hsr, q_hss, q_inc1, List.set_cons_zero, List.set_cons_succ, ↓reduceIte, q_ss0, q_ssi, q_ssr, q_nr0, q_nr10, q_nr11, q_tlS, q_tlN, q_cl, q_let, q_lef, q_ltt, q_ltf, q_eqt, q_eqf, q_add, q_mul, Nat.reduceAdd, Nat.reduceLeDiff, Nat.reduceEqDiff, eq_self, Nat.zero_le, Nat.le_refl, not_false_eq_true, not_true_eq_false, true_and, and_true, and_self, if_true, if_false, p1.o, cl91 h91, c1, hN, c3]
    exact hQ
  have c3 : (nI n ≤ nI k) = False := q_lef (by omega) (by omega)
  simp only [hN, c3, if_false, q_cl hk] at hQ
  have k6 : k < 6 := by omega
  rcases way_c y with ⟨w, hw, rfl⟩ | ⟨d0, d1⟩
  · have d2 : ¬ (¬ nI w = nI 0 ∧ ¬ nI w = nI 1) := by
      rcases (show w = 0 ∨ w = 1 by omega) with rfl | rfl
      · exact fun z => z.1 rfl
      · exact fun z => z.2 rfl
    rw [if_neg d2, if_neg d2, q_cl (show w < 2147483648 by omega)] at hQ
    have wt := @way_t w hw (nI 1) (nI 0)
    have hk4 : ∃ q, q < 4 ∧ M (3 + 1) k = nI q := p2.2.2.2.2.1 k k6
    have e3 : rmM M 3 = M 3 := rmM_out (by omega) (by omega)
    have e4 : rmM M (3 + 1) = M (3 + 1) := rmM_out (by omega) (by omega)
    have e19 : rmM M (18 + 1) = M (18 + 1) := rmM_out (by omega) (by omega)
    have hr4 : ∃ q, q < 4 ∧ rmM M (3 + 1) k = nI q := by rw [e4]; exact hk4
    have ho := ocF_lt (M (3 + 1) k).toNatClampNeg w (M (18 + 1) (k * 5 + 1)) (M 3 3)
    unfold trX at hQ
    rcases ho with h0 | h0 | h0
    · have h0' : ocF (M 4 k).toNatClampNeg w (M 19 (k * 5 + 1)) (M 3 3) = 0 := h0
      simp only [h0', (by decide : ((0 : Nat) = 2) = False), if_false, eq_self, if_true] at hQ
      simp (disch := first | assumption | omega) only [e129_0, e129_1, e129_2, e129_5, e129_8, e129_9, e129_12, e129_15, e129_16, e129_17, e129_18, e129_21, e129_22, e129_25, e129_26, e129_27, e129_30, e129_31, e129_34, e129_36, e129_37, e129_38, e129_41, e129_42, e129_45, e129_46, e129_49, e129_50, e129_51, e129_54, e129_54r, e129_55, e129_56, e129_59, e129_60, e129_61, e129_64, q_gv0, q_gvs, q_isI1, q_isA1, q_hs0, q_hsn, q_hsi, q_hsr, q_hss, q_inc1, List.set_cons_zero, List.set_cons_succ, ↓reduceIte, q_ss0, q_ssi, q_ssr, q_nr0, q_nr10, q_nr11, q_tlS, q_tlN, q_cl, q_let, q_lef, q_ltt, q_ltf, q_eqt, q_eqf, q_add, q_mul, Nat.reduceAdd, Nat.reduceLeDiff, Nat.reduceEqDiff, eq_self, Nat.zero_le, Nat.le_refl, not_false_eq_true, not_true_eq_false, true_and, and_true, and_self, if_true, if_false, p1.o, p1.g1, p1.g3, hl.o, hc.o, cl91 h91, cl108 h108 trivial, c1, hN, c3, wt, cl62 h62, cl53 h53, cl63 h63, cl61 h61, h0, e3, e4, e19]
      exact hQ
    · have h0' : ocF (M 4 k).toNatClampNeg w (M 19 (k * 5 + 1)) (M 3 3) = 1 := h0
      simp only [h0', (by decide : ((1 : Nat) = 2) = False), (by decide : ((1 : Nat) = 0) = False), if_false] at hQ
      rw [show rmM M 19 = M 19 from e19] at hQ
      simp (disch := first | assumption | omega) only [e129_0, e129_1, e129_2, e129_5, e129_8, e129_9, e129_12, e129_15, e129_16, e129_17, e129_18, e129_21, e129_22, e129_25, e129_26, e129_27, e129_30, e129_31, e129_34, e129_36, e129_37, e129_38, e129_41, e129_42, e129_45, e129_46, e129_49, e129_50, e129_51, e129_54, e129_54r, e129_55, e129_56, e129_59, e129_60, e129_61, e129_64, q_gv0, q_gvs, q_isI1, q_isA1, q_hs0, q_hsn, q_hsi, q_hsr, q_hss, q_inc1, List.set_cons_zero, List.set_cons_succ, ↓reduceIte, q_ss0, q_ssi, q_ssr, q_nr0, q_nr10, q_nr11, q_tlS, q_tlN, q_cl, q_let, q_lef, q_ltt, q_ltf, q_eqt, q_eqf, q_add, q_mul, Nat.reduceAdd, Nat.reduceLeDiff, Nat.reduceEqDiff, eq_self, Nat.zero_le, Nat.le_refl, not_false_eq_true, not_true_eq_false, true_and, and_true, and_self, if_true, if_false, p1.o, p1.g1, p1.g3, hl.o, hc.o, cl91 h91, cl108 h108 trivial, c1, hN, c3, wt, cl62 h62, cl53 h53, cl63 h63, cl61 h61, h0, e3, e4, e19]
      exact hQ
    · have h0' : ocF (M 4 k).toNatClampNeg w (M 19 (k * 5 + 1)) (M 3 3) = 2 := h0
      simp only [h0', eq_self, if_true] at hQ
      simp (disch := first | assumption | omega) only [e129_0, e129_1, e129_2, e129_5, e129_8, e129_9, e129_12, e129_15, e129_16, e129_17, e129_18, e129_21, e129_22, e129_25, e129_26, e129_27, e129_30, e129_31, e129_34, e129_36, e129_37, e129_38, e129_41, e129_42, e129_45, e129_46, e129_49, e129_50, e129_51, e129_54, e129_54r, e129_55, e129_56, e129_59, e129_60, e129_61, e129_64, q_gv0, q_gvs, q_isI1, q_isA1, q_hs0, q_hsn, q_hsi, q_hsr, q_hss, q_inc1, List.set_cons_zero, List.set_cons_succ, ↓reduceIte, q_ss0, q_ssi, q_ssr, q_nr0, q_nr10, q_nr11, q_tlS, q_tlN, q_cl, q_let, q_lef, q_ltt, q_ltf, q_eqt, q_eqf, q_add, q_mul, Nat.reduceAdd, Nat.reduceLeDiff, Nat.reduceEqDiff, eq_self, Nat.zero_le, Nat.le_refl, not_false_eq_true, not_true_eq_false, true_and, and_true, and_self, if_true, if_false, p1.o, p1.g1, p1.g3, hl.o, hc.o, cl91 h91, cl108 h108 trivial, c1, hN, c3, wt, cl62 h62, h0]
      exact hQ
  · rw [if_pos ⟨d0, d1⟩, if_pos ⟨d0, d1⟩] at hQ
    simp (disch := first | assumption | omega) only [e129_0, e129_1, e129_2, e129_5, e129_8, e129_9, e129_12, e129_15, e129_16, e129_17, e129_18, e129_21, e129_22, e129_25, e129_26, e129_27, e129_30, e129_31, e129_34, e129_36, e129_37, e129_38, e129_41, e129_42, e129_45, e129_46, e129_49, e129_50, e129_51, e129_54, e129_54r, e129_55, e129_56, e129_59, e129_60, e129_61, e129_64, q_gv0, q_gvs, q_isI1, q_isA1, q_hs0, q_hsn, q_hsi, q_hsr, q_hss, q_inc1, List.set_cons_zero, List.set_cons_succ, ↓reduceIte, q_ss0, q_ssi, q_ssr, q_nr0, q_nr10, q_nr11, q_tlS, q_tlN, q_cl, q_let, q_lef, q_ltt, q_ltf, q_eqt, q_eqf, q_add, q_mul, Nat.reduceAdd, Nat.reduceLeDiff, Nat.reduceEqDiff, eq_self, Nat.zero_le, Nat.le_refl, not_false_eq_true, not_true_eq_false, true_and, and_true, and_self, if_true, if_false, p1.o, cl91 h91, cl108 h108 trivial, c1, hN, c3, d0, d1]
    exact hQ
def sp137 : mv_Sp := fun As sh M Q => ∃ (x : Int32) (y : Int32), As = [.ref 0, .int x, .int y] ∧ ((oX sh) ∧ (gL M 3) ∧ (∃ e, e < 8 ∧ M 0 6 &&& nI 7 = nI e) ∧ (∃ n, n < 9 ∧ M 0 7 = nI n) ∧ (∃ r, r < 25 ∧ M 18 2 = nI r)) ∧ Q (some (.int (if x < nI 0 then Int32.ofInt (-1) else if M 3 1 ≤ x then Int32.ofInt (-1) else if ¬ y = nI 0 ∧ ¬ y = nI 1 then Int32.ofInt (-1) else if M 18 2 = nI 24 then Int32.ofInt (-3) else clX (wvM (rmM M) 18 3 x.toNatClampNeg y.toNatClampNeg) 3 (tpX (wvM (rmM M) 18 3 x.toNatClampNeg y.toNatClampNeg) 18)))) (sh) (if x < nI 0 then M else if M 3 1 ≤ x then M else if ¬ y = nI 0 ∧ ¬ y = nI 1 then M else if M 18 2 = nI 24 then M else wvM (rmM M) 18 3 x.toNatClampNeg y.toNatClampNeg)
theorem cl137 {S : Nat → mv_Sp} (hS : S 137 = sp137) {sh : mv_Shp} {M : mv_Mem} {x : Int32} {y : Int32} (p1 : oX sh) (p2 : gL M 3) (p3 : ∃ e, e < 8 ∧ M 0 6 &&& nI 7 = nI e) (p4 : ∃ n, n < 9 ∧ M 0 7 = nI n) (p5 : ∃ r, r < 25 ∧ M 18 2 = nI r) {K : mv_Kt} {pc : Nat} {L : mv_Loc} {st : List Value} {cc_ ss_ : Nat} : mv_kal S 137 [.ref 0, .int x, .int y] sh M K pc L st cc_ ss_ = K pc L ((some (.int (if x < nI 0 then Int32.ofInt (-1) else if M 3 1 ≤ x then Int32.ofInt (-1) else if ¬ y = nI 0 ∧ ¬ y = nI 1 then Int32.ofInt (-1) else if M 18 2 = nI 24 then Int32.ofInt (-3) else clX (wvM (rmM M) 18 3 x.toNatClampNeg y.toNatClampNeg) 3 (tpX (wvM (rmM M) 18 3 x.toNatClampNeg y.toNatClampNeg) 18))) : Option Value).toList ++ st) (sh) (if x < nI 0 then M else if M 3 1 ≤ x then M else if ¬ y = nI 0 ∧ ¬ y = nI 1 then M else if M 18 2 = nI 24 then M else wvM (rmM M) 18 3 x.toNatClampNeg y.toNatClampNeg) cc_ ss_ := by
  refine q_kal (fun F => q_cali (fun Q => ?_))
  rw [hS]
  constructor
  · rintro ⟨x', y', hE, ⟨zp1, zp2, zp3, zp4, zp5⟩, hQ⟩
    simp only [List.cons.injEq, Value.ref.injEq, Value.int.injEq, Value.long.injEq, and_true, true_and] at hE
    obtain ⟨rfl, rfl⟩ := hE
    exact hQ
  · intro hQ
    exact ⟨x, y, rfl, ⟨p1, p2, p3, p4, p5⟩, hQ⟩
theorem ct137 {S : Nat → mv_Sp} (h53 : S 53 = sp53) (h66 : S 66 = sp66) (h67 : S 67 = sp67) (h70 : S 70 = sp70) (h107 : S 107 = sp107) (h108 : S 108 = sp108) : ∀ As sh M P, sp137 As sh M P → (mv_al0 As).length ≤ 3 ∧ mr137 S P 0 (mv_ent As 3) [] sh M 0 0 := by
  rintro As sh M P ⟨x, y, rfl, ⟨p1, p2, p3, p4, p5⟩, hQ⟩
  refine ⟨Nat.le_of_ble_eq_true rfl, ?_⟩
  show mr137 S P 0 [some (.ref 0), some (.int x), some (.int y)] [] sh M 0 0
  have hl := p1.loom
  have hc := p1.cloth
  obtain ⟨n, hn, hN⟩ := p2.2.1
  obtain ⟨r, hr, hR⟩ := id p5
  rcases i32_c x with c1 | ⟨k, hk, rfl⟩
  · simp only [c1, if_true] at hQ
    simp (disch := first | assumption | omega) only [e137_0, e137_1, e137_2, e137_5, e137_8, e137_9, e137_12, e137_15, e137_16, e137_17, e137_18, e137_21, e137_24, e137_26, e137_29, e137_31, e137_32, e137_33, e137_36, e137_37, e137_40, e137_41, e137_44, e137_45, e137_46, e137_49, e137_49r, e137_50, e137_51, e137_54, e137_55, e137_58, e137_61, e137_64, q_gv0, q_gvs, q_isI1, q_isA1, q_hs0, q_hsn, q_hsi, q_hsr, q_hss, q_inc1, List.set_cons_zero, List.set_cons_succ, ↓reduceIte, q_ss0, q_ssi, q_ssr, q_nr0, q_nr10, q_nr11, q_tlS, q_tlN, q_cl, q_let, q_lef, q_ltt, q_ltf, q_eqt, q_eqf, q_add, q_mul, Nat.reduceAdd, Nat.reduceLeDiff, Nat.reduceEqDiff, eq_self, Nat.zero_le, Nat.le_refl, not_false_eq_true, not_true_eq_false, true_and, and_true, and_self, if_true, if_false, p1.o, cl107 h107, c1]
    exact hQ
  have c1 : (nI k < nI 0) = False := q_ltf (by omega) hk
  simp only [c1, if_false] at hQ
  by_cases c2 : n ≤ k
  · have c3 : (nI n ≤ nI k) = True := q_let c2 hk
    simp only [hN, c3, if_true] at hQ
    simp (disch := first | assumption | omega) only [e137_0, e137_1, e137_2, e137_5, e137_8, e137_9, e137_12, e137_15, e137_16, e137_17, e137_18, e137_21, e137_24, e137_26, e137_29, e137_31, e137_32, e137_33, e137_36, e137_37, e137_40, e137_41, e137_44, e137_45, e137_46, e137_49, e137_49r, e137_50, e137_51, e137_54, e137_55, e137_58, e137_61, e137_64, q_gv0, q_gvs, q_isI1, q_isA1, q_hs0, q_hsn, q_hsi, q_hsr, q_hss, q_inc1, List.set_cons_zero, List.set_cons_succ, ↓reduceIte, q_ss0, q_ssi, q_ssr, q_nr0, q_nr10, q_nr11, q_tlS, q_tlN, q_cl, q_let, q_lef, q_ltt, q_ltf, q_eqt, q_eqf, q_add, q_mul, Nat.reduceAdd, Nat.reduceLeDiff, Nat.reduceEqDiff, eq_self, Nat.zero_le, Nat.le_refl, not_false_eq_true, not_true_eq_false, true_and, and_true, and_self, if_true, if_false, p1.o, cl107 h107, c1, hN, c3]
    exact hQ
  have c3 : (nI n ≤ nI k) = False := q_lef (by omega) (by omega)
  simp only [hN, c3, if_false, q_cl hk] at hQ
  have k6 : k < 6 := by omega
  rcases way_c y with ⟨w, hw, rfl⟩ | ⟨d0, d1⟩
  · have d2 : ¬ (¬ nI w = nI 0 ∧ ¬ nI w = nI 1) := by
      rcases (show w = 0 ∨ w = 1 by omega) with rfl | rfl
      · exact fun z => z.1 rfl
      · exact fun z => z.2 rfl
    rw [if_neg d2, if_neg d2, q_cl (show w < 2147483648 by omega)] at hQ
    have wt := @way_t w hw (nI 1) (nI 0)
    by_cases c4 : r = 24
    · subst c4
      rw [if_pos hR, if_pos hR] at hQ
      simp (disch := first | assumption | omega) only [e137_0, e137_1, e137_2, e137_5, e137_8, e137_9, e137_12, e137_15, e137_16, e137_17, e137_18, e137_21, e137_24, e137_26, e137_29, e137_31, e137_32, e137_33, e137_36, e137_37, e137_40, e137_41, e137_44, e137_45, e137_46, e137_49, e137_49r, e137_50, e137_51, e137_54, e137_55, e137_58, e137_61, e137_64, q_gv0, q_gvs, q_isI1, q_isA1, q_hs0, q_hsn, q_hsi, q_hsr, q_hss, q_inc1, List.set_cons_zero, List.set_cons_succ, ↓reduceIte, q_ss0, q_ssi, q_ssr, q_nr0, q_nr10, q_nr11, q_tlS, q_tlN, q_cl, q_let, q_lef, q_ltt, q_ltf, q_eqt, q_eqf, q_add, q_mul, Nat.reduceAdd, Nat.reduceLeDiff, Nat.reduceEqDiff, eq_self, Nat.zero_le, Nat.le_refl, not_false_eq_true, not_true_eq_false, true_and, and_true, and_self, if_true, if_false, p1.o, p1.g3, hc.g2, cl107 h107, cl108 h108 trivial, c1, hN, c3, wt, hR]
      exact hQ
    have c5 : ¬ M 18 2 = nI 24 := fun z => c4 ((nI_eq (by omega) (by omega)).mp (hR.symm.trans z))
    rw [if_neg c5, if_neg c5] at hQ
    have e18 : rmM M 18 = M 18 := rmM_out (by omega) (by omega)
    have r2 : ∃ r, r < 24 ∧ rmM M 18 2 = nI r := ⟨r, by omega, by rw [e18]; exact hR⟩
    have g2 := gL_rm p2
    have g3 := (gL_wv (c := 18) (a := 3) (p := k) (w := w) g2 (show 3 + 6 < 18 by decide)).1
    simp (disch := first | assumption | omega) only [e137_0, e137_1, e137_2, e137_5, e137_8, e137_9, e137_12, e137_15, e137_16, e137_17, e137_18, e137_21, e137_24, e137_26, e137_29, e137_31, e137_32, e137_33, e137_36, e137_37, e137_40, e137_41, e137_44, e137_45, e137_46, e137_49, e137_49r, e137_50, e137_51, e137_54, e137_55, e137_58, e137_61, e137_64, q_gv0, q_gvs, q_isI1, q_isA1, q_hs0, q_hsn, q_hsi, q_hsr, q_hss, q_inc1, List.set_cons_zero, List.set_cons_succ, ↓reduceIte, q_ss0, q_ssi, q_ssr, q_nr0, q_nr10, q_nr11, q_tlS, q_tlN, q_cl, q_let, q_lef, q_ltt, q_ltf, q_eqt, q_eqf, q_add, q_mul, Nat.reduceAdd, Nat.reduceLeDiff, Nat.reduceEqDiff, eq_self, Nat.zero_le, Nat.le_refl, not_false_eq_true, not_true_eq_false, true_and, and_true, and_self, if_true, if_false, p1.o, p1.g1, p1.g3, hc.g2, hl.o, hc.o, cl107 h107, cl108 h108 trivial, c1, hN, c3, wt, hR, cl53 h53, cl70 h70, cr66 h66, cr67 h67]
    exact hQ
  · rw [if_pos ⟨d0, d1⟩, if_pos ⟨d0, d1⟩] at hQ
    simp (disch := first | assumption | omega) only [e137_0, e137_1, e137_2, e137_5, e137_8, e137_9, e137_12, e137_15, e137_16, e137_17, e137_18, e137_21, e137_24, e137_26, e137_29, e137_31, e137_32, e137_33, e137_36, e137_37, e137_40, e137_41, e137_44, e137_45, e137_46, e137_49, e137_49r, e137_50, e137_51, e137_54, e137_55, e137_58, e137_61, e137_64, q_gv0, q_gvs, q_isI1, q_isA1, q_hs0, q_hsn, q_hsi, q_hsr, q_hss, q_inc1, List.set_cons_zero, List.set_cons_succ, ↓reduceIte, q_ss0, q_ssi, q_ssr, q_nr0, q_nr10, q_nr11, q_tlS, q_tlN, q_cl, q_let, q_lef, q_ltt, q_ltf, q_eqt, q_eqf, q_add, q_mul, Nat.reduceAdd, Nat.reduceLeDiff, Nat.reduceEqDiff, eq_self, Nat.zero_le, Nat.le_refl, not_false_eq_true, not_true_eq_false, true_and, and_true, and_self, if_true, if_false, p1.o, cl107 h107, cl108 h108 trivial, c1, hN, c3, d0, d1]
    exact hQ
def wpM (M : mv_Mem) : mv_Mem := if 0 < (M 1 3).toNatClampNeg then mv_up (mv_up M 1 2 (nI 1)) 1 3 (nI 0) else mv_up M 1 3 (nI 0)
theorem cr49 {S : Nat → mv_Sp} (h : S 49 = sp49) {sh : mv_Shp} {M : mv_Mem} {K : mv_Kt} {pc : Nat} {L : mv_Loc} {st : List Value} {c s : Nat} (p1 : oX sh) (p2 : tX M) :
    mv_kal S 49 [.ref 1, .int (nI 0)] sh M K pc L st c s = K pc L ((none : Option Value).toList ++ st) sh (wpM M) c s := by
  obtain ⟨n, hn, hN, -⟩ := p2.1
  exact cl49 h p1 p2 ⟨n, by omega, Nat.zero_le _, hN⟩
def sp138 : mv_Sp := fun As sh M Q => As = [.ref 0] ∧ ((oX sh) ∧ (tX M)) ∧ Q (some (.int (M 1 3))) (sh) (wpM M)
theorem cl138 {S : Nat → mv_Sp} (hS : S 138 = sp138) {sh : mv_Shp} {M : mv_Mem}  (p1 : oX sh) (p2 : tX M) {K : mv_Kt} {pc : Nat} {L : mv_Loc} {st : List Value} {cc_ ss_ : Nat} : mv_kal S 138 [.ref 0] sh M K pc L st cc_ ss_ = K pc L ((some (.int (M 1 3)) : Option Value).toList ++ st) (sh) (wpM M) cc_ ss_ := by
  refine q_kal (fun F => q_cali (fun Q => ?_))
  rw [hS]
  constructor
  · rintro ⟨hE, ⟨zp1, zp2⟩, hQ⟩
    exact hQ
  · intro hQ
    exact ⟨rfl, ⟨p1, p2⟩, hQ⟩
theorem ct138 {S : Nat → mv_Sp} (h20 : S 20 = sp20) (h49 : S 49 = sp49) : ∀ As sh M P, sp138 As sh M P → (mv_al0 As).length ≤ 2 ∧ mr138 S P 0 (mv_ent As 2) [] sh M 0 0 := by
  rintro As sh M P ⟨rfl, ⟨p1, p2⟩, hQ⟩
  refine ⟨Nat.le_of_ble_eq_true rfl, ?_⟩
  show mr138 S P 0 [some (.ref 0), none] [] sh M 0 0
  simp (disch := first | assumption | omega) only [e138_0, e138_1, e138_4, e138_7, e138_8, e138_9, e138_12, e138_13, e138_16, e138_17, q_gv0, q_gvs, q_isI1, q_isA1, q_hs0, q_hsn, q_hsi, q_hsr, q_hss, q_inc1, List.set_cons_zero, List.set_cons_succ, ↓reduceIte, q_ss0, q_ssi, q_ssr, q_nr0, q_nr10, q_nr11, q_tlS, q_tlN, q_cl, q_let, q_lef, q_ltt, q_ltf, q_eqt, q_eqf, q_add, q_mul, Nat.reduceAdd, Nat.reduceLeDiff, Nat.reduceEqDiff, eq_self, Nat.zero_le, Nat.le_refl, not_false_eq_true, not_true_eq_false, true_and, and_true, and_self, if_true, if_false, p1.g0, p1.o1, cl20 h20, cr49 h49]
  exact hQ
def wrM (M : mv_Mem) (x : Nat) : mv_Mem := mv_up (mv_up M 1 3 (nI ((M 1 3).toNatClampNeg + 1))) 61 (M 1 3).toNatClampNeg (nI x)
theorem q_chM {x : Nat} (h : x < 128) : q_ch (nI x) = nI x := by
  have : ∀ k : Fin 128, q_ch (nI k.1) = nI k.1 := by decide +kernel
  exact this ⟨x, h⟩
def sp142 : mv_Sp := fun As sh M Q => ∃ (x : Int32), As = [.ref 0, .int x] ∧ ((oX sh) ∧ (tX M) ∧ (∃ c, c < 96 ∧ M 1 3 = nI c)) ∧ Q (some (.int (if x < nI 32 then Int32.ofInt (-1) else if nI 126 < x then Int32.ofInt (-1) else nI ((M 1 3).toNatClampNeg + 1)))) (sh) (if x < nI 32 then M else if nI 126 < x then M else wrM M x.toNatClampNeg)
theorem cl142 {S : Nat → mv_Sp} (hS : S 142 = sp142) {sh : mv_Shp} {M : mv_Mem} {x : Int32} (p1 : oX sh) (p2 : tX M) (p3 : ∃ c, c < 96 ∧ M 1 3 = nI c) {K : mv_Kt} {pc : Nat} {L : mv_Loc} {st : List Value} {cc_ ss_ : Nat} : mv_kal S 142 [.ref 0, .int x] sh M K pc L st cc_ ss_ = K pc L ((some (.int (if x < nI 32 then Int32.ofInt (-1) else if nI 126 < x then Int32.ofInt (-1) else nI ((M 1 3).toNatClampNeg + 1))) : Option Value).toList ++ st) (sh) (if x < nI 32 then M else if nI 126 < x then M else wrM M x.toNatClampNeg) cc_ ss_ := by
  refine q_kal (fun F => q_cali (fun Q => ?_))
  rw [hS]
  constructor
  · rintro ⟨x', hE, ⟨zp1, zp2, zp3⟩, hQ⟩
    simp only [List.cons.injEq, Value.ref.injEq, Value.int.injEq, Value.long.injEq, and_true, true_and] at hE
    subst hE
    exact hQ
  · intro hQ
    exact ⟨x, rfl, ⟨p1, p2, p3⟩, hQ⟩
theorem ct142 {S : Nat → mv_Sp} (h20 : S 20 = sp20) (h141 : S 141 = sp141) : ∀ As sh M P, sp142 As sh M P → (mv_al0 As).length ≤ 2 ∧ mr142 S P 0 (mv_ent As 2) [] sh M 0 0 := by
  rintro As sh M P ⟨x, rfl, ⟨p1, p2, p3⟩, hQ⟩
  refine ⟨Nat.le_of_ble_eq_true rfl, ?_⟩
  show mr142 S P 0 [some (.ref 0), some (.int x)] [] sh M 0 0
  obtain ⟨c, hc, hC⟩ := id p3
  by_cases c1 : x < nI 32
  · rw [if_pos c1, if_pos c1] at hQ
    simp (disch := first | assumption | omega) only [e142_0, e142_1, e142_3, e142_6, e142_7, e142_9, e142_12, e142_13, e142_14, e142_15, e142_18, e142_21, e142_24, e142_27, e142_29, e142_30, e142_31, e142_34, e142_35, e142_36, e142_39, e142_39r, e142_40, e142_41, e142_44, e142_47, q_gv0, q_gvs, q_isI1, q_isA1, q_hs0, q_hsn, q_hsi, q_hsr, q_hss, q_inc1, List.set_cons_zero, List.set_cons_succ, ↓reduceIte, q_ss0, q_ssi, q_ssr, q_nr0, q_nr10, q_nr11, q_tlS, q_tlN, q_cl, q_let, q_lef, q_ltt, q_ltf, q_eqt, q_eqf, q_add, q_mul, Nat.reduceAdd, Nat.reduceLeDiff, Nat.reduceEqDiff, eq_self, Nat.zero_le, Nat.le_refl, not_false_eq_true, not_true_eq_false, true_and, and_true, and_self, if_true, if_false, c1]
    exact hQ
  rw [if_neg c1, if_neg c1] at hQ
  by_cases c2 : nI 126 < x
  · rw [if_pos c2, if_pos c2] at hQ
    have c3 : ¬ x ≤ nI 126 := Int32.not_le.mpr c2
    simp (disch := first | assumption | omega) only [e142_0, e142_1, e142_3, e142_6, e142_7, e142_9, e142_12, e142_13, e142_14, e142_15, e142_18, e142_21, e142_24, e142_27, e142_29, e142_30, e142_31, e142_34, e142_35, e142_36, e142_39, e142_39r, e142_40, e142_41, e142_44, e142_47, q_gv0, q_gvs, q_isI1, q_isA1, q_hs0, q_hsn, q_hsi, q_hsr, q_hss, q_inc1, List.set_cons_zero, List.set_cons_succ, ↓reduceIte, q_ss0, q_ssi, q_ssr, q_nr0, q_nr10, q_nr11, q_tlS, q_tlN, q_cl, q_let, q_lef, q_ltt, q_ltf, q_eqt, q_eqf, q_add, q_mul, Nat.reduceAdd, Nat.reduceLeDiff, Nat.reduceEqDiff, eq_self, Nat.zero_le, Nat.le_refl, not_false_eq_true, not_true_eq_false, true_and, and_true, and_self, if_true, if_false, c1, c3]
    exact hQ
  rw [if_neg c2, if_neg c2] at hQ
  rcases i32_c x with c3 | ⟨k, hk, rfl⟩
  · exact absurd (Int32.lt_trans c3 (by decide)) c1
  have k1 : ¬ k < 32 := fun z => c1 ((nI_ltI (by omega) (by omega)).mpr z)
  have k2 : ¬ 126 < k := fun z => c2 ((nI_ltI (by omega) (by omega)).mpr z)
  have k3 : k < 128 := by omega
  have e1 : mv_up (mv_up M 1 3 (nI (c + 1))) 61 c (nI k) = wrM M k := by unfold wrM; rw [hC, q_cl (by omega)]
  have e2 : wrM M k 1 3 = nI (c + 1) := by rw [← e1, q_upO (by decide), q_upS]
  rw [hC, q_cl (show c < 2147483648 by omega), q_cl hk] at hQ
  simp (disch := first | assumption | omega) only [e142_0, e142_1, e142_3, e142_6, e142_7, e142_9, e142_12, e142_13, e142_14, e142_15, e142_18, e142_21, e142_24, e142_27, e142_29, e142_30, e142_31, e142_34, e142_35, e142_36, e142_39, e142_39r, e142_40, e142_41, e142_44, e142_47, q_gv0, q_gvs, q_isI1, q_isA1, q_hs0, q_hsn, q_hsi, q_hsr, q_hss, q_inc1, List.set_cons_zero, List.set_cons_succ, ↓reduceIte, q_ss0, q_ssi, q_ssr, q_nr0, q_nr10, q_nr11, q_tlS, q_tlN, q_cl, q_let, q_lef, q_ltt, q_ltf, q_eqt, q_eqf, q_add, q_mul, Nat.reduceAdd, Nat.reduceLeDiff, Nat.reduceEqDiff, eq_self, Nat.zero_le, Nat.le_refl, not_false_eq_true, not_true_eq_false, true_and, and_true, and_self, if_true, if_false, p1.g0, p1.o1, cl20 h20, cl141 h141, hC, c1, c2, q_chM, e1, e2]
  exact hQ
