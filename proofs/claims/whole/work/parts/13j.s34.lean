/-! the draft woven again -/
def agF : Nat → Nat → mv_Mem → mv_Mem
  | 0, _, M => M
  | n + 1, k, M => if (M 18 2).toNatClampNeg < 24 then agF n (k + 1) (wvM M 18 3 ((M 9 k).toNatClampNeg / 10) ((M 9 k).toNatClampNeg % 10)) else M
theorem lp71 {S : Nat → mv_Sp} (h55 : S 55 = sp55) (h56 : S 56 = sp56) (h70 : S 70 = sp70) {sh : mv_Shp} {P : mv_Post} {nK : Nat} {x : Int32} (p1 : oX sh) (hK8 : nK ≤ 8) :
    ∀ n k (M : mv_Mem), k + n = nK → gL M 3 → M 3 2 = nI nK → (∃ r, r < 25 ∧ M 18 2 = nI r) → P (some (.int (agF n k M 18 2 - x))) sh (agF n k M) →
      mr71 S P 42 [some (.ref 0), some (.int x), some (.int (nI k))] [] sh M 0 0
  | 0, k, M, h, hG, hK, hR, hQ => by
    obtain rfl : k = nK := by omega
    have hl := p1.loom
    have hc := p1.cloth
    rw [e71_42]
    simp (disch := first | assumption | omega) only [e71_0, e71_1, e71_4, e71_7, e71_10, e71_12, e71_13, e71_14, e71_17, e71_20, e71_22, e71_25, e71_27, e71_28, e71_29, e71_32, e71_33, e71_36, e71_39, e71_40, e71_41, e71_43, e71_44, e71_47, e71_50, e71_53, e71_54, e71_57, e71_60, e71_62, e71_65, e71_66, e71_69, e71_70, e71_73, e71_74, e71_77, e71_78, e71_81, e71_82, e71_85, e71_86, e71_89, e71_92, e71_92r, e71_93, e71_96, e71_99, e71_100, e71_103, e71_106, e71_107, e71_108, q_gv0, q_gvs, q_isI1, q_isA1, q_hs0, q_hsn, q_hsi, q_hsr, q_hss, q_inc1, List.set_cons_zero, List.set_cons_succ, ↓reduceIte, q_ss0, q_ssi, q_ssr, q_nr0, q_nr10, q_nr11, q_tlS, q_tlN, q_cl, q_let, q_lef, q_ltt, q_ltf, q_eqt, q_eqf, q_add, q_mul, Nat.reduceAdd, Nat.reduceLeDiff, Nat.reduceEqDiff, eq_self, Nat.zero_le, Nat.le_refl, not_false_eq_true, not_true_eq_false, true_and, and_true, and_self, if_true, if_false, p1.g1, p1.g3, hl.g2, hc.g2, hK]
    exact hQ
  | n + 1, k, M, h, hG, hK, hR, hQ => by
    obtain ⟨r, hr, hR⟩ := hR
    have hl := p1.loom
    have hc := p1.cloth
    unfold agF at hQ
    rw [hR, q_cl (show r < 2147483648 by omega)] at hQ
    rw [e71_42]
    by_cases c : r < 24
    · rw [if_pos c] at hQ
      obtain ⟨q, w, hq, hw, hV⟩ := pkE hG (show k < 8 by omega)
      have hV : M 9 k = nI (10 * q + w) := hV
      have hv : ∃ v, v < 60 ∧ M (3 + 6) k = nI v := ⟨10 * q + w, by omega, hV⟩
      have k8 : k < 8 := by omega
      rw [hV, q_cl (show 10 * q + w < 2147483648 by omega), dv10 hw, md10 hw] at hQ
      have d1 : (M (3 + 6) k).toNatClampNeg / 10 = q := by show (M 9 k).toNatClampNeg / 10 = q; rw [hV, q_cl (by omega), dv10 hw]
      have d2 : (M (3 + 6) k).toNatClampNeg % 10 = w := by show (M 9 k).toNatClampNeg % 10 = w; rw [hV, q_cl (by omega), md10 hw]
      have r24 : ∃ r, r < 24 ∧ M 18 2 = nI r := ⟨r, c, hR⟩
      have r25 : ∃ s, s < 25 ∧ wvM M 18 3 q w 18 2 = nI s := ⟨r + 1, by omega, by rw [wvM_row, hR, q_cl (by omega)]⟩
      have k3 : wvM M 18 3 q w 3 2 = nI nK := by rw [wvM_out (by omega) (by omega) (by omega)]; exact hK
      simp (disch := first | assumption | omega) only [e71_0, e71_1, e71_4, e71_7, e71_10, e71_12, e71_13, e71_14, e71_17, e71_20, e71_22, e71_25, e71_27, e71_28, e71_29, e71_32, e71_33, e71_36, e71_39, e71_40, e71_41, e71_43, e71_44, e71_47, e71_50, e71_53, e71_54, e71_57, e71_60, e71_62, e71_65, e71_66, e71_69, e71_70, e71_73, e71_74, e71_77, e71_78, e71_81, e71_82, e71_85, e71_86, e71_89, e71_92, e71_92r, e71_93, e71_96, e71_99, e71_100, e71_103, e71_106, e71_107, e71_108, q_gv0, q_gvs, q_isI1, q_isA1, q_hs0, q_hsn, q_hsi, q_hsr, q_hss, q_inc1, List.set_cons_zero, List.set_cons_succ, ↓reduceIte, q_ss0, q_ssi, q_ssr, q_nr0, q_nr10, q_nr11, q_tlS, q_tlN, q_cl, q_let, q_lef, q_ltt, q_ltf, q_eqt, q_eqf, q_add, q_mul, Nat.reduceAdd, Nat.reduceLeDiff, Nat.reduceEqDiff, eq_self, Nat.zero_le, Nat.le_refl, not_false_eq_true, not_true_eq_false, true_and, and_true, and_self, if_true, if_false, p1.g1, p1.g3, hl.g2, hl.o, hc.g2, hc.o, hK, hR, cl55 h55, cl56 h56, d1, d2, cl70 h70]
      exact lp71 h55 h56 h70 p1 hK8 n (k + 1) _ (by omega) (gL_wv hG (by omega)) k3 r25 hQ
    · rw [if_neg c] at hQ
      simp (disch := first | assumption | omega) only [e71_0, e71_1, e71_4, e71_7, e71_10, e71_12, e71_13, e71_14, e71_17, e71_20, e71_22, e71_25, e71_27, e71_28, e71_29, e71_32, e71_33, e71_36, e71_39, e71_40, e71_41, e71_43, e71_44, e71_47, e71_50, e71_53, e71_54, e71_57, e71_60, e71_62, e71_65, e71_66, e71_69, e71_70, e71_73, e71_74, e71_77, e71_78, e71_81, e71_82, e71_85, e71_86, e71_89, e71_92, e71_92r, e71_93, e71_96, e71_99, e71_100, e71_103, e71_106, e71_107, e71_108, q_gv0, q_gvs, q_isI1, q_isA1, q_hs0, q_hsn, q_hsi, q_hsr, q_hss, q_inc1, List.set_cons_zero, List.set_cons_succ, ↓reduceIte, q_ss0, q_ssi, q_ssr, q_nr0, q_nr10, q_nr11, q_tlS, q_tlN, q_cl, q_let, q_lef, q_ltt, q_ltf, q_eqt, q_eqf, q_add, q_mul, Nat.reduceAdd, Nat.reduceLeDiff, Nat.reduceEqDiff, eq_self, Nat.zero_le, Nat.le_refl, not_false_eq_true, not_true_eq_false, true_and, and_true, and_self, if_true, if_false, p1.g1, p1.g3, hl.g2, hc.g2, hK, hR]
      rw [hR] at hQ
      exact hQ
def sp71 : mv_Sp := fun As sh M Q => As = [.ref 0] ∧ ((oX sh) ∧ (gL M 3) ∧ (∃ e, e < 8 ∧ M 0 6 &&& nI 7 = nI e) ∧ (∃ n, n < 9 ∧ M 0 7 = nI n) ∧ (∃ r, r < 25 ∧ M 18 2 = nI r)) ∧ Q (some (.int (if M 3 2 = nI 0 then Int32.ofInt (-2) else if M 18 2 = nI 24 then Int32.ofInt (-3) else agF (M 3 2).toNatClampNeg 0 (rmM M) 18 2 - M 18 2))) (sh) (if M 3 2 = nI 0 then M else if M 18 2 = nI 24 then M else agF (M 3 2).toNatClampNeg 0 (rmM M))
theorem cl71 {S : Nat → mv_Sp} (hS : S 71 = sp71) {sh : mv_Shp} {M : mv_Mem}  (p1 : oX sh) (p2 : gL M 3) (p3 : ∃ e, e < 8 ∧ M 0 6 &&& nI 7 = nI e) (p4 : ∃ n, n < 9 ∧ M 0 7 = nI n) (p5 : ∃ r, r < 25 ∧ M 18 2 = nI r) {K : mv_Kt} {pc : Nat} {L : mv_Loc} {st : List Value} {cc_ ss_ : Nat} : mv_kal S 71 [.ref 0] sh M K pc L st cc_ ss_ = K pc L ((some (.int (if M 3 2 = nI 0 then Int32.ofInt (-2) else if M 18 2 = nI 24 then Int32.ofInt (-3) else agF (M 3 2).toNatClampNeg 0 (rmM M) 18 2 - M 18 2)) : Option Value).toList ++ st) (sh) (if M 3 2 = nI 0 then M else if M 18 2 = nI 24 then M else agF (M 3 2).toNatClampNeg 0 (rmM M)) cc_ ss_ := by
  refine q_kal (fun F => q_cali (fun Q => ?_))
  rw [hS]
  constructor
  · rintro ⟨hE, ⟨zp1, zp2, zp3, zp4, zp5⟩, hQ⟩
    exact hQ
  · intro hQ
    exact ⟨rfl, ⟨p1, p2, p3, p4, p5⟩, hQ⟩
theorem ct71 {S : Nat → mv_Sp} (h53 : S 53 = sp53) (h55 : S 55 = sp55) (h56 : S 56 = sp56) (h70 : S 70 = sp70) : ∀ As sh M P, sp71 As sh M P → (mv_al0 As).length ≤ 3 ∧ mr71 S P 0 (mv_ent As 3) [] sh M 0 0 := by
  rintro As sh M P ⟨rfl, ⟨p1, p2, p3, p4, p5⟩, hQ⟩
  refine ⟨Nat.le_of_ble_eq_true rfl, ?_⟩
  show mr71 S P 0 [some (.ref 0), none, none] [] sh M 0 0
  have hl := p1.loom
  have hc := p1.cloth
  obtain ⟨nK, hK8, hK⟩ := p2.2.2.1
  obtain ⟨r, hr, hR⟩ := id p5
  by_cases c1 : M 3 2 = nI 0
  · rw [if_pos c1, if_pos c1] at hQ
    simp (disch := first | assumption | omega) only [e71_0, e71_1, e71_4, e71_7, e71_10, e71_12, e71_13, e71_14, e71_17, e71_20, e71_22, e71_25, e71_27, e71_28, e71_29, e71_32, e71_33, e71_36, e71_39, e71_40, e71_41, e71_43, e71_44, e71_47, e71_50, e71_53, e71_54, e71_57, e71_60, e71_62, e71_65, e71_66, e71_69, e71_70, e71_73, e71_74, e71_77, e71_78, e71_81, e71_82, e71_85, e71_86, e71_89, e71_92, e71_92r, e71_93, e71_96, e71_99, e71_100, e71_103, e71_106, e71_107, e71_108, q_gv0, q_gvs, q_isI1, q_isA1, q_hs0, q_hsn, q_hsi, q_hsr, q_hss, q_inc1, List.set_cons_zero, List.set_cons_succ, ↓reduceIte, q_ss0, q_ssi, q_ssr, q_nr0, q_nr10, q_nr11, q_tlS, q_tlN, q_cl, q_let, q_lef, q_ltt, q_ltf, q_eqt, q_eqf, q_add, q_mul, Nat.reduceAdd, Nat.reduceLeDiff, Nat.reduceEqDiff, eq_self, Nat.zero_le, Nat.le_refl, not_false_eq_true, not_true_eq_false, true_and, and_true, and_self, if_true, if_false, p1.g1, hl.g2, c1]
    exact hQ
  rw [if_neg c1, if_neg c1] at hQ
  by_cases c2 : r = 24
  · subst c2
    rw [if_pos hR, if_pos hR] at hQ
    simp (disch := first | assumption | omega) only [e71_0, e71_1, e71_4, e71_7, e71_10, e71_12, e71_13, e71_14, e71_17, e71_20, e71_22, e71_25, e71_27, e71_28, e71_29, e71_32, e71_33, e71_36, e71_39, e71_40, e71_41, e71_43, e71_44, e71_47, e71_50, e71_53, e71_54, e71_57, e71_60, e71_62, e71_65, e71_66, e71_69, e71_70, e71_73, e71_74, e71_77, e71_78, e71_81, e71_82, e71_85, e71_86, e71_89, e71_92, e71_92r, e71_93, e71_96, e71_99, e71_100, e71_103, e71_106, e71_107, e71_108, q_gv0, q_gvs, q_isI1, q_isA1, q_hs0, q_hsn, q_hsi, q_hsr, q_hss, q_inc1, List.set_cons_zero, List.set_cons_succ, ↓reduceIte, q_ss0, q_ssi, q_ssr, q_nr0, q_nr10, q_nr11, q_tlS, q_tlN, q_cl, q_let, q_lef, q_ltt, q_ltf, q_eqt, q_eqf, q_add, q_mul, Nat.reduceAdd, Nat.reduceLeDiff, Nat.reduceEqDiff, eq_self, Nat.zero_le, Nat.le_refl, not_false_eq_true, not_true_eq_false, true_and, and_true, and_self, if_true, if_false, p1.g1, p1.g3, hl.g2, hc.g2, c1, hR]
    exact hQ
  have c3 : ¬ M 18 2 = nI 24 := fun z => c2 ((nI_eq (by omega) (by omega)).mp (hR.symm.trans z))
  rw [if_neg c3, if_neg c3, hK, hR, q_cl (show nK < 2147483648 by omega)] at hQ
  have e18 : rmM M 18 = M 18 := rmM_out (by omega) (by omega)
  have r24 : r < 24 := by omega
  simp (disch := first | assumption | omega) only [e71_0, e71_1, e71_4, e71_7, e71_10, e71_12, e71_13, e71_14, e71_17, e71_20, e71_22, e71_25, e71_27, e71_28, e71_29, e71_32, e71_33, e71_36, e71_39, e71_40, e71_41, e71_43, e71_44, e71_47, e71_50, e71_53, e71_54, e71_57, e71_60, e71_62, e71_65, e71_66, e71_69, e71_70, e71_73, e71_74, e71_77, e71_78, e71_81, e71_82, e71_85, e71_86, e71_89, e71_92, e71_92r, e71_93, e71_96, e71_99, e71_100, e71_103, e71_106, e71_107, e71_108, q_gv0, q_gvs, q_isI1, q_isA1, q_hs0, q_hsn, q_hsi, q_hsr, q_hss, q_inc1, List.set_cons_zero, List.set_cons_succ, ↓reduceIte, q_ss0, q_ssi, q_ssr, q_nr0, q_nr10, q_nr11, q_tlS, q_tlN, q_cl, q_let, q_lef, q_ltt, q_ltf, q_eqt, q_eqf, q_add, q_mul, Nat.reduceAdd, Nat.reduceLeDiff, Nat.reduceEqDiff, eq_self, Nat.zero_le, Nat.le_refl, not_false_eq_true, not_true_eq_false, true_and, and_true, and_self, if_true, if_false, p1.o, p1.g1, p1.g3, hl.g2, hc.g2, c1, hR, cl53 h53, e18]
  exact lp71 h55 h56 h70 p1 hK8 nK 0 (rmM M) (by omega) (gL_rm p2) (by rw [rmM_out (by omega) (by omega)]; exact hK) ⟨r, hr, by rw [e18]; exact hR⟩ hQ
