/-! cut, unweave, round -/
def sp96 : mv_Sp := fun As sh M Q => As = [.ref 0] ∧ ((oX sh) ∧ (∃ e, e < 8 ∧ M 0 6 &&& nI 7 = nI e) ∧ (∃ n, n < 9 ∧ M 0 7 = nI n) ∧ (∃ r, r < 25 ∧ M 18 2 = nI r)) ∧ Q (some (.int (M 18 2))) (sh) (mv_up (rmM M) 18 2 (nI 0))
theorem cl96 {S : Nat → mv_Sp} (hS : S 96 = sp96) {sh : mv_Shp} {M : mv_Mem}  (p1 : oX sh) (p2 : ∃ e, e < 8 ∧ M 0 6 &&& nI 7 = nI e) (p3 : ∃ n, n < 9 ∧ M 0 7 = nI n) (p4 : ∃ r, r < 25 ∧ M 18 2 = nI r) {K : mv_Kt} {pc : Nat} {L : mv_Loc} {st : List Value} {cc_ ss_ : Nat} : mv_kal S 96 [.ref 0] sh M K pc L st cc_ ss_ = K pc L ((some (.int (M 18 2)) : Option Value).toList ++ st) (sh) (mv_up (rmM M) 18 2 (nI 0)) cc_ ss_ := by
  refine q_kal (fun F => q_cali (fun Q => ?_))
  rw [hS]
  constructor
  · rintro ⟨hE, ⟨zp1, zp2, zp3, zp4⟩, hQ⟩
    exact hQ
  · intro hQ
    exact ⟨rfl, ⟨p1, p2, p3, p4⟩, hQ⟩
theorem ct96 {S : Nat → mv_Sp} (h53 : S 53 = sp53) : ∀ As sh M P, sp96 As sh M P → (mv_al0 As).length ≤ 2 ∧ mr96 S P 0 (mv_ent As 2) [] sh M 0 0 := by
  rintro As sh M P ⟨rfl, ⟨p1, p2, p3, p4⟩, hQ⟩
  refine ⟨Nat.le_of_ble_eq_true rfl, ?_⟩
  show mr96 S P 0 [some (.ref 0), none] [] sh M 0 0
  have hc := p1.cloth
  have e18 : rmM M 18 = M 18 := rmM_out (by omega) (by omega)
  simp (disch := first | assumption | omega) only [e96_0, e96_1, e96_4, e96_5, e96_8, e96_11, e96_12, e96_13, e96_16, e96_17, e96_20, e96_21, q_gv0, q_gvs, q_isI1, q_isA1, q_hs0, q_hsn, q_hsi, q_hsr, q_hss, q_inc1, List.set_cons_zero, List.set_cons_succ, ↓reduceIte, q_ss0, q_ssi, q_ssr, q_nr0, q_nr10, q_nr11, q_tlS, q_tlN, q_cl, q_let, q_lef, q_ltt, q_ltf, q_eqt, q_eqf, q_add, q_mul, Nat.reduceAdd, Nat.reduceLeDiff, Nat.reduceEqDiff, eq_self, Nat.zero_le, Nat.le_refl, not_false_eq_true, not_true_eq_false, true_and, and_true, and_self, if_true, if_false, p1.o, p1.g3, hc.g2, hc.p2, cl53 h53, e18]
  exact hQ
def uwM (M : mv_Mem) (c : Nat) : mv_Mem := mv_wr (mv_up M c 2 (nI ((M c 2).toNatClampNeg - 1))) (c + 1) (va_cpy (M (c + 2)) (M (c + 1)) (((M c 2).toNatClampNeg - 1) * 32 + 2) 0 30)
theorem cr132 {S : Nat → mv_Sp} (h : S 132 = sp132) {sh : mv_Shp} {M : mv_Mem} {c0 : Nat} {K : mv_Kt} {pc : Nat} {L : mv_Loc} {st : List Value} {c s : Nat} (p1 : oC sh c0) (p2 : ∃ r, r < 25 ∧ 0 < r ∧ M c0 2 = nI r) :
    mv_kal S 132 [.ref c0] sh M K pc L st c s = K pc L ((none : Option Value).toList ++ st) sh (uwM M c0) c s := cl132 h p1 p2
theorem uwM_2 {M : mv_Mem} {c : Nat} : uwM M c c 2 = nI ((M c 2).toNatClampNeg - 1) := by
  unfold uwM
  rw [q_wrO (by omega), q_upS]
def sp133 : mv_Sp := fun As sh M Q => As = [.ref 0] ∧ ((oX sh) ∧ (∃ e, e < 8 ∧ M 0 6 &&& nI 7 = nI e) ∧ (∃ n, n < 9 ∧ M 0 7 = nI n) ∧ (∃ r, r < 25 ∧ M 18 2 = nI r)) ∧ Q (some (.int (if M 18 2 = nI 0 then Int32.ofInt (-2) else nI ((M 18 2).toNatClampNeg - 1)))) (sh) (if M 18 2 = nI 0 then M else uwM (rmM M) 18)
theorem cl133 {S : Nat → mv_Sp} (hS : S 133 = sp133) {sh : mv_Shp} {M : mv_Mem}  (p1 : oX sh) (p2 : ∃ e, e < 8 ∧ M 0 6 &&& nI 7 = nI e) (p3 : ∃ n, n < 9 ∧ M 0 7 = nI n) (p4 : ∃ r, r < 25 ∧ M 18 2 = nI r) {K : mv_Kt} {pc : Nat} {L : mv_Loc} {st : List Value} {cc_ ss_ : Nat} : mv_kal S 133 [.ref 0] sh M K pc L st cc_ ss_ = K pc L ((some (.int (if M 18 2 = nI 0 then Int32.ofInt (-2) else nI ((M 18 2).toNatClampNeg - 1))) : Option Value).toList ++ st) (sh) (if M 18 2 = nI 0 then M else uwM (rmM M) 18) cc_ ss_ := by
  refine q_kal (fun F => q_cali (fun Q => ?_))
  rw [hS]
  constructor
  · rintro ⟨hE, ⟨zp1, zp2, zp3, zp4⟩, hQ⟩
    exact hQ
  · intro hQ
    exact ⟨rfl, ⟨p1, p2, p3, p4⟩, hQ⟩
theorem ct133 {S : Nat → mv_Sp} (h53 : S 53 = sp53) (h132 : S 132 = sp132) : ∀ As sh M P, sp133 As sh M P → (mv_al0 As).length ≤ 1 ∧ mr133 S P 0 (mv_ent As 1) [] sh M 0 0 := by
  rintro As sh M P ⟨rfl, ⟨p1, p2, p3, p4⟩, hQ⟩
  refine ⟨Nat.le_of_ble_eq_true rfl, ?_⟩
  show mr133 S P 0 [some (.ref 0)] [] sh M 0 0
  have hc := p1.cloth
  obtain ⟨r, hr, hR⟩ := id p4
  have e18 : rmM M 18 = M 18 := rmM_out (by omega) (by omega)
  by_cases c1 : M 18 2 = nI 0
  · rw [if_pos c1, if_pos c1] at hQ
    simp (disch := first | assumption | omega) only [e133_0, e133_1, e133_4, e133_7, e133_10, e133_12, e133_13, e133_14, e133_17, e133_18, e133_21, e133_24, e133_25, e133_28, e133_31, q_gv0, q_gvs, q_isI1, q_isA1, q_hs0, q_hsn, q_hsi, q_hsr, q_hss, q_inc1, List.set_cons_zero, List.set_cons_succ, ↓reduceIte, q_ss0, q_ssi, q_ssr, q_nr0, q_nr10, q_nr11, q_tlS, q_tlN, q_cl, q_let, q_lef, q_ltt, q_ltf, q_eqt, q_eqf, q_add, q_mul, Nat.reduceAdd, Nat.reduceLeDiff, Nat.reduceEqDiff, eq_self, Nat.zero_le, Nat.le_refl, not_false_eq_true, not_true_eq_false, true_and, and_true, and_self, if_true, if_false, p1.g3, hc.g2, c1]
    exact hQ
  · rw [if_neg c1, if_neg c1] at hQ
    have r0 : ∃ r, r < 25 ∧ 0 < r ∧ rmM M 18 2 = nI r := by
      refine ⟨r, hr, ?_, by rw [e18]; exact hR⟩
      rcases r with _ | r
      · exact absurd hR c1
      · omega
    simp (disch := first | assumption | omega) only [e133_0, e133_1, e133_4, e133_7, e133_10, e133_12, e133_13, e133_14, e133_17, e133_18, e133_21, e133_24, e133_25, e133_28, e133_31, q_gv0, q_gvs, q_isI1, q_isA1, q_hs0, q_hsn, q_hsi, q_hsr, q_hss, q_inc1, List.set_cons_zero, List.set_cons_succ, ↓reduceIte, q_ss0, q_ssi, q_ssr, q_nr0, q_nr10, q_nr11, q_tlS, q_tlN, q_cl, q_let, q_lef, q_ltt, q_ltf, q_eqt, q_eqf, q_add, q_mul, Nat.reduceAdd, Nat.reduceLeDiff, Nat.reduceEqDiff, eq_self, Nat.zero_le, Nat.le_refl, not_false_eq_true, not_true_eq_false, true_and, and_true, and_self, if_true, if_false, p1.g3, p1.o, hc.g2, hc.o, c1, cl53 h53, cr132 h132, uwM_2, e18]
    exact hQ
def rdF (M : mv_Mem) (nT : Nat) : Nat → Int32
  | 0 => nI 0
  | k + 1 => adT (rdF M nT k) (stF M 3 ((M 9 k).toNatClampNeg / 10) ((M 9 k).toNatClampNeg % 10) nT)
theorem lp120 {S : Nat → mv_Sp} (h51 : S 51 = sp51) (h55 : S 55 = sp55) (h56 : S 56 = sp56) (h80 : S 80 = sp80) {sh : mv_Shp} {M : mv_Mem} {P : mv_Post} {nT nK : Nat} (p1 : oX sh) (hG : gL M 3) (hT : M 3 0 = nI nT) (hT6 : nT ≤ 6) (hK : M 3 2 = nI nK) (hK8 : nK ≤ 8)
    (hQ : mr120 S P 62 [some (.ref 0), some (.int (rdF M nT nK)), some (.int (nI nK))] [] sh M 0 0) :
    ∀ n k, k + n = nK → mr120 S P 17 [some (.ref 0), some (.int (rdF M nT k)), some (.int (nI k))] [] sh M 0 0
  | 0, k, h => by
    obtain rfl : k = nK := by omega
    have hl := p1.loom
    rw [e120_17]
    simp (disch := first | assumption | omega) only [e120_0, e120_1, e120_4, e120_7, e120_10, e120_12, e120_13, e120_14, e120_15, e120_16, e120_18, e120_19, e120_22, e120_25, e120_28, e120_29, e120_30, e120_33, e120_34, e120_37, e120_38, e120_41, e120_42, e120_45, e120_46, e120_49, e120_52, e120_55, e120_56, e120_59, e120_63, e120_66, e120_67, e120_68, e120_69, e120_70, e120_73, e120_76, e120_77, e120_80, e120_81, q_gv0, q_gvs, q_isI1, q_isA1, q_hs0, q_hsn, q_hsi, q_hsr, q_hss, q_inc1, List.set_cons_zero, List.set_cons_succ, ↓reduceIte, q_ss0, q_ssi, q_ssr, q_nr0, q_nr10, q_nr11, q_tlS, q_tlN, q_cl, q_let, q_lef, q_ltt, q_ltf, q_eqt, q_eqf, q_add, q_mul, Nat.reduceAdd, Nat.reduceLeDiff, Nat.reduceEqDiff, eq_self, Nat.zero_le, Nat.le_refl, not_false_eq_true, not_true_eq_false, true_and, and_true, and_self, if_true, if_false, p1.g1, hl.g2, hK]
    exact hQ
  | n + 1, k, h => by
    have hl := p1.loom
    have ih := lp120 h51 h55 h56 h80 p1 hG hT hT6 hK hK8 hQ n (k + 1) (by omega)
    obtain ⟨q, w, hq, hw, hV⟩ := pkE hG (show k < 8 by omega)
    have hV : M 9 k = nI (10 * q + w) := hV
    have hv : ∃ v, v < 60 ∧ M (3 + 6) k = nI v := ⟨10 * q + w, by omega, hV⟩
    have g0 := hG.1
    have g4 := hG.2.2.2.2.1
    have k8 : k < 8 := by omega
    unfold rdF at ih
    rw [hV, q_cl (show 10 * q + w < 2147483648 by omega), dv10 hw, md10 hw] at ih
    have d1 : (M (3 + 6) k).toNatClampNeg / 10 = q := by show (M 9 k).toNatClampNeg / 10 = q; rw [hV, q_cl (by omega), dv10 hw]
    have d2 : (M (3 + 6) k).toNatClampNeg % 10 = w := by show (M 9 k).toNatClampNeg % 10 = w; rw [hV, q_cl (by omega), md10 hw]
    rw [e120_17]
    simp (disch := first | assumption | omega) only [e120_0, e120_1, e120_4, e120_7, e120_10, e120_12, e120_13, e120_14, e120_15, e120_16, e120_18, e120_19, e120_22, e120_25, e120_28, e120_29, e120_30, e120_33, e120_34, e120_37, e120_38, e120_41, e120_42, e120_45, e120_46, e120_49, e120_52, e120_55, e120_56, e120_59, e120_63, e120_66, e120_67, e120_68, e120_69, e120_70, e120_73, e120_76, e120_77, e120_80, e120_81, q_gv0, q_gvs, q_isI1, q_isA1, q_hs0, q_hsn, q_hsi, q_hsr, q_hss, q_inc1, List.set_cons_zero, List.set_cons_succ, ↓reduceIte, q_ss0, q_ssi, q_ssr, q_nr0, q_nr10, q_nr11, q_tlS, q_tlN, q_cl, q_let, q_lef, q_ltt, q_ltf, q_eqt, q_eqf, q_add, q_mul, Nat.reduceAdd, Nat.reduceLeDiff, Nat.reduceEqDiff, eq_self, Nat.zero_le, Nat.le_refl, not_false_eq_true, not_true_eq_false, true_and, and_true, and_self, if_true, if_false, p1.g1, hl.g2, hl.o, hK, hT, cl55 h55, cl56 h56, cl80 h80, cr51 h51, d1, d2]
    exact ih
def sp120 : mv_Sp := fun As sh M Q => As = [.ref 0] ∧ ((oX sh) ∧ (gL M 3)) ∧ Q (some (.int (if M 3 2 = nI 0 then Int32.ofInt (-4) else if rdF M (M 3 0).toNatClampNeg (M 3 2).toNatClampNeg = nI 0 then nI 1 else if adT (rdF M (M 3 0).toNatClampNeg (M 3 2).toNatClampNeg) (rdF M (M 3 0).toNatClampNeg (M 3 2).toNatClampNeg) = nI 0 then nI 2 else nI 4))) (sh) (M)
theorem cl120 {S : Nat → mv_Sp} (hS : S 120 = sp120) {sh : mv_Shp} {M : mv_Mem}  (p1 : oX sh) (p2 : gL M 3) {K : mv_Kt} {pc : Nat} {L : mv_Loc} {st : List Value} {cc_ ss_ : Nat} : mv_kal S 120 [.ref 0] sh M K pc L st cc_ ss_ = K pc L ((some (.int (if M 3 2 = nI 0 then Int32.ofInt (-4) else if rdF M (M 3 0).toNatClampNeg (M 3 2).toNatClampNeg = nI 0 then nI 1 else if adT (rdF M (M 3 0).toNatClampNeg (M 3 2).toNatClampNeg) (rdF M (M 3 0).toNatClampNeg (M 3 2).toNatClampNeg) = nI 0 then nI 2 else nI 4)) : Option Value).toList ++ st) (sh) (M) cc_ ss_ := by
  refine q_kal (fun F => q_cali (fun Q => ?_))
  rw [hS]
  constructor
  · rintro ⟨hE, ⟨zp1, zp2⟩, hQ⟩
    exact hQ
  · intro hQ
    exact ⟨rfl, ⟨p1, p2⟩, hQ⟩
theorem ct120 {S : Nat → mv_Sp} (h51 : S 51 = sp51) (h55 : S 55 = sp55) (h56 : S 56 = sp56) (h80 : S 80 = sp80) : ∀ As sh M P, sp120 As sh M P → (mv_al0 As).length ≤ 3 ∧ mr120 S P 0 (mv_ent As 3) [] sh M 0 0 := by
  rintro As sh M P ⟨rfl, ⟨p1, p2⟩, hQ⟩
  refine ⟨Nat.le_of_ble_eq_true rfl, ?_⟩
  show mr120 S P 0 [some (.ref 0), none, none] [] sh M 0 0
  have hl := p1.loom
  obtain ⟨n, hn, hN⟩ := p2.1
  obtain ⟨nK, hK8, hK⟩ := p2.2.2.1
  by_cases c1 : M 3 2 = nI 0
  · rw [if_pos c1] at hQ
    simp (disch := first | assumption | omega) only [e120_0, e120_1, e120_4, e120_7, e120_10, e120_12, e120_13, e120_14, e120_15, e120_16, e120_18, e120_19, e120_22, e120_25, e120_28, e120_29, e120_30, e120_33, e120_34, e120_37, e120_38, e120_41, e120_42, e120_45, e120_46, e120_49, e120_52, e120_55, e120_56, e120_59, e120_63, e120_66, e120_67, e120_68, e120_69, e120_70, e120_73, e120_76, e120_77, e120_80, e120_81, q_gv0, q_gvs, q_isI1, q_isA1, q_hs0, q_hsn, q_hsi, q_hsr, q_hss, q_inc1, List.set_cons_zero, List.set_cons_succ, ↓reduceIte, q_ss0, q_ssi, q_ssr, q_nr0, q_nr10, q_nr11, q_tlS, q_tlN, q_cl, q_let, q_lef, q_ltt, q_ltf, q_eqt, q_eqf, q_add, q_mul, Nat.reduceAdd, Nat.reduceLeDiff, Nat.reduceEqDiff, eq_self, Nat.zero_le, Nat.le_refl, not_false_eq_true, not_true_eq_false, true_and, and_true, and_self, if_true, if_false, p1.g1, hl.g2, c1]
    exact hQ
  rw [if_neg c1, hN, hK, q_cl (show n < 2147483648 by omega), q_cl (show nK < 2147483648 by omega)] at hQ
  simp (disch := first | assumption | omega) only [e120_0, e120_1, e120_4, e120_7, e120_13, e120_14, e120_15, e120_16, q_gv0, q_gvs, q_isI1, q_isA1, q_hs0, q_hsn, q_hsi, q_hsr, q_hss, q_inc1, List.set_cons_zero, List.set_cons_succ, ↓reduceIte, q_ss0, q_ssi, q_ssr, q_nr0, q_nr10, q_nr11, q_tlS, q_tlN, q_cl, q_let, q_lef, q_ltt, q_ltf, q_eqt, q_eqf, q_add, q_mul, Nat.reduceAdd, Nat.reduceLeDiff, Nat.reduceEqDiff, eq_self, Nat.zero_le, Nat.le_refl, not_false_eq_true, not_true_eq_false, true_and, and_true, and_self, if_true, if_false, p1.g1, hl.g2, c1]
  refine lp120 h51 h55 h56 h80 p1 p2 hN hn hK hK8 ?_ nK 0 (by omega)
  generalize rdF M n nK = x at hQ ⊢
  by_cases c2 : x = nI 0
  · rw [if_pos c2] at hQ
    simp (disch := first | assumption | omega) only [e120_0, e120_1, e120_4, e120_7, e120_10, e120_12, e120_13, e120_14, e120_15, e120_16, e120_18, e120_19, e120_22, e120_25, e120_28, e120_29, e120_30, e120_33, e120_34, e120_37, e120_38, e120_41, e120_42, e120_45, e120_46, e120_49, e120_52, e120_55, e120_56, e120_59, e120_62, e120_63, e120_66, e120_67, e120_68, e120_69, e120_70, e120_73, e120_76, e120_77, e120_80, e120_81, q_gv0, q_gvs, q_isI1, q_isA1, q_hs0, q_hsn, q_hsi, q_hsr, q_hss, q_inc1, List.set_cons_zero, List.set_cons_succ, ↓reduceIte, q_ss0, q_ssi, q_ssr, q_nr0, q_nr10, q_nr11, q_tlS, q_tlN, q_cl, q_let, q_lef, q_ltt, q_ltf, q_eqt, q_eqf, q_add, q_mul, Nat.reduceAdd, Nat.reduceLeDiff, Nat.reduceEqDiff, eq_self, Nat.zero_le, Nat.le_refl, not_false_eq_true, not_true_eq_false, true_and, and_true, and_self, if_true, if_false, c2]
    exact hQ
  rw [if_neg c2] at hQ
  by_cases c3 : adT x x = nI 0
  · rw [if_pos c3] at hQ
    simp (disch := first | assumption | omega) only [e120_0, e120_1, e120_4, e120_7, e120_10, e120_12, e120_13, e120_14, e120_15, e120_16, e120_18, e120_19, e120_22, e120_25, e120_28, e120_29, e120_30, e120_33, e120_34, e120_37, e120_38, e120_41, e120_42, e120_45, e120_46, e120_49, e120_52, e120_55, e120_56, e120_59, e120_62, e120_63, e120_66, e120_67, e120_68, e120_69, e120_70, e120_73, e120_76, e120_77, e120_80, e120_81, q_gv0, q_gvs, q_isI1, q_isA1, q_hs0, q_hsn, q_hsi, q_hsr, q_hss, q_inc1, List.set_cons_zero, List.set_cons_succ, ↓reduceIte, q_ss0, q_ssi, q_ssr, q_nr0, q_nr10, q_nr11, q_tlS, q_tlN, q_cl, q_let, q_lef, q_ltt, q_ltf, q_eqt, q_eqf, q_add, q_mul, Nat.reduceAdd, Nat.reduceLeDiff, Nat.reduceEqDiff, eq_self, Nat.zero_le, Nat.le_refl, not_false_eq_true, not_true_eq_false, true_and, and_true, and_self, if_true, if_false, c2, c3, cr51 h51]
    exact hQ
  rw [if_neg c3] at hQ
  simp (disch := first | assumption | omega) only [e120_0, e120_1, e120_4, e120_7, e120_10, e120_12, e120_13, e120_14, e120_15, e120_16, e120_18, e120_19, e120_22, e120_25, e120_28, e120_29, e120_30, e120_33, e120_34, e120_37, e120_38, e120_41, e120_42, e120_45, e120_46, e120_49, e120_52, e120_55, e120_56, e120_59, e120_62, e120_63, e120_66, e120_67, e120_68, e120_69, e120_70, e120_73, e120_76, e120_77, e120_80, e120_81, q_gv0, q_gvs, q_isI1, q_isA1, q_hs0, q_hsn, q_hsi, q_hsr, q_hss, q_inc1, List.set_cons_zero, List.set_cons_succ, ↓reduceIte, q_ss0, q_ssi, q_ssr, q_nr0, q_nr10, q_nr11, q_tlS, q_tlN, q_cl, q_let, q_lef, q_ltt, q_ltf, q_eqt, q_eqf, q_add, q_mul, Nat.reduceAdd, Nat.reduceLeDiff, Nat.reduceEqDiff, eq_self, Nat.zero_le, Nat.le_refl, not_false_eq_true, not_true_eq_false, true_and, and_true, and_self, if_true, if_false, c2, c3, cr51 h51]
  exact hQ
