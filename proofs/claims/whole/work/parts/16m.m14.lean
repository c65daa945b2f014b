/-! the model: unwoven, drafts woven, gathers, round, jams -/
theorem wvY_out {M : mv_Mem} {b p w c : Nat} (h : ¬ c = 1) : wvY M b p w c = M c := by
  unfold wvY
  rw [q_upO h, q_upO h, q_upO h, trY_out h, wvA_out h]
theorem gM_wvY {M : mv_Mem} {b p w : Nat} (h : gM M) : gM (wvY M b p w) :=
  gM_of h (by rw [wvY_out (by decide)]) (by rw [wvY_out (by decide)]) (by rw [wvY_out (by decide)]) (by rw [wvY_out (by decide)]) (wvY_out (by decide)) (wvY_out (by decide)) (wvY_out (by decide)) (wvY_out (by decide))
theorem cY_wvY {M : mv_Mem} {b p w : Nat} (hw : w < 2) (hG : gM M) (h : cY M b) : cY (wvY M b p w) b := by
  unfold wvY
  have g3 := gM_wvA (b := b) hG
  have c3 : cY (wvA M b) b := cY_of (gM6 hG) h (by rw [wvA_out (by decide)]) (fun j _ h => wvA_lo (by omega))
  have c4 := cY_tr (p := p) hw g3 c3 (M 0 3).toNatClampNeg (by rw [wvA_out (by decide)]; exact Nat.le_refl _)
  refine cY_of (gM6 (gM_trY g3)) c4 (by rw [q_upO (by decide), q_upO (by decide), q_upO (by decide)]) (fun j _ h => ?_)
  rw [q_upN (by omega), q_upN (by omega), q_upN (by omega)]
theorem wvY_row {M : mv_Mem} {b p w : Nat} : wvY M b p w 1 (b + 30) = nI ((M 1 (b + 30)).toNatClampNeg + 1) := by
  unfold wvY
  exact q_upS
theorem cpY_s0 {M : mv_Mem} {f k : Nat} : mv_up (cpY M f 0 k) 1 k (cpY M f 0 k 1 (f + k)) = cpY M f 0 (k + 1) := by
  have := @cpY_step M f 0 k (by omega)
  rw [Nat.zero_add] at this
  exact this
theorem lp211 {S : Nat → mv_Sp} {sh : mv_Shp} {M : mv_Mem} {P : mv_Post} {r : Nat} (p1 : oM sh) (hR : M 1 30 = nI r) (hr : r < 24) (hQ : ∀ z, mr211 S P 70 [some (.ref 0), z] [] sh (cpY M (31 + 32 * r + 2) 0 30) 0 0) :
    ∀ n k, k + n = 30 → mr211 S P 30 [some (.ref 0), some (.int (nI k))] [] sh (cpY M (31 + 32 * r + 2) 0 k) 0 0
  | 0, k, h => by
    obtain rfl : k = 30 := by omega
    rw [e211_30]
    simp (disch := first | assumption | omega) only [e211_31, e211_33, q_gv0, q_gvs, q_isI1, q_isA1, q_hs0, q_hsn, q_hsi, q_hsr, q_hss, q_inc1, List.set_cons_zero, List.set_cons_succ, ↓reduceIte, q_ss0, q_ssi, q_ssr, q_nr0, q_nr10, q_nr11, q_tlS, q_tlN, q_cl, q_let, q_lef, q_ltt, q_ltf, q_eqt, q_eqf, q_add, q_mul, Nat.reduceAdd, Nat.reduceLeDiff, Nat.reduceEqDiff, eq_self, Nat.zero_le, Nat.le_refl, not_false_eq_true, not_true_eq_false, true_and, and_true, and_self, if_true, if_false]
    exact hQ _
  | n + 1, k, h => by
    have ih := lp211 (S := S) p1 hR hr hQ n (k + 1) (by omega)
    rw [← cpY_s0] at ih
    have e : cpY M (31 + 32 * r + 2) 0 k 1 30 = nI r := by rw [cpY_at (by omega)]; exact hR
    rw [e211_30]
    simp (disch := first | assumption | omega) only [e211_31, e211_33, e211_36, e211_37, e211_40, e211_41, e211_42, e211_45, e211_47, e211_49, e211_50, e211_53, e211_55, e211_56, e211_57, e211_58, e211_59, e211_60, e211_61, e211_62, e211_63, e211_64, e211_67, q_gv0, q_gvs, q_isI1, q_isA1, q_hs0, q_hsn, q_hsi, q_hsr, q_hss, q_inc1, List.set_cons_zero, List.set_cons_succ, ↓reduceIte, q_ss0, q_ssi, q_ssr, q_nr0, q_nr10, q_nr11, q_tlS, q_tlN, q_cl, q_let, q_lef, q_ltt, q_ltf, q_eqt, q_eqf, q_add, q_mul, Nat.reduceAdd, Nat.reduceLeDiff, Nat.reduceEqDiff, eq_self, Nat.zero_le, Nat.le_refl, not_false_eq_true, not_true_eq_false, true_and, and_true, and_self, if_true, if_false, p1.g0, p1.l1, p1.s1, e]
    exact ih
/-- the last row unwoven -/
def uwY (M : mv_Mem) : mv_Mem := cpY (mv_up M 1 30 (nI ((M 1 30).toNatClampNeg - 1))) (31 + 32 * ((M 1 30).toNatClampNeg - 1) + 2) 0 30
def sp211 : mv_Sp := fun As sh M Q => As = [.ref 0] ∧ ((oM sh) ∧ (∃ n, n < 9 ∧ M 0 1 = nI n) ∧ (∃ r, r < 25 ∧ M 1 30 = nI r)) ∧ Q (some (.int (if M 1 30 = nI 0 then Int32.ofInt (-2) else nI ((M 1 30).toNatClampNeg - 1)))) (sh) (if M 1 30 = nI 0 then M else uwY (kpM M))
theorem cl211 {S : Nat → mv_Sp} (hS : S 211 = sp211) {sh : mv_Shp} {M : mv_Mem}  (p1 : oM sh) (p2 : ∃ n, n < 9 ∧ M 0 1 = nI n) (p3 : ∃ r, r < 25 ∧ M 1 30 = nI r) {K : mv_Kt} {pc : Nat} {L : mv_Loc} {st : List Value} {cc_ ss_ : Nat} : mv_kal S 211 [.ref 0] sh M K pc L st cc_ ss_ = K pc L ((some (.int (if M 1 30 = nI 0 then Int32.ofInt (-2) else nI ((M 1 30).toNatClampNeg - 1))) : Option Value).toList ++ st) (sh) (if M 1 30 = nI 0 then M else uwY (kpM M)) cc_ ss_ := by
  refine q_kal (fun F => q_cali (fun Q => ?_))
  rw [hS]
  constructor
  · rintro ⟨hE, ⟨zp1, zp2, zp3⟩, hQ⟩
    exact hQ
  · intro hQ
    exact ⟨rfl, ⟨p1, p2, p3⟩, hQ⟩
theorem ct211 {S : Nat → mv_Sp} (h157 : S 157 = sp157) : ∀ As sh M P, sp211 As sh M P → (mv_al0 As).length ≤ 2 ∧ mr211 S P 0 (mv_ent As 2) [] sh M 0 0 := by
  rintro As sh M P ⟨rfl, ⟨p1, p2, p3⟩, hQ⟩
  refine ⟨Nat.le_of_ble_eq_true rfl, ?_⟩
  show mr211 S P 0 [some (.ref 0), none] [] sh M 0 0
  obtain ⟨r, hr, hR⟩ := id p3
  by_cases c : r = 0
  · subst c
    rw [if_pos hR, if_pos hR] at hQ
    simp (disch := first | assumption | omega) only [e211_0, e211_1, e211_4, e211_6, e211_7, e211_10, e211_12, e211_13, e211_14, e211_17, e211_18, e211_21, e211_23, e211_23q, e211_23r, e211_23rq, e211_24, e211_25, e211_26, e211_27, e211_28, e211_29, e211_31, e211_33, e211_36, e211_37, e211_40, e211_41, e211_42, e211_45, e211_47, e211_49, e211_50, e211_53, e211_55, e211_56, e211_57, e211_58, e211_59, e211_60, e211_61, e211_62, e211_63, e211_64, e211_67, e211_71, e211_74, e211_76, e211_77, q_gv0, q_gvs, q_isI1, q_isA1, q_hs0, q_hsn, q_hsi, q_hsr, q_hss, q_inc1, List.set_cons_zero, List.set_cons_succ, ↓reduceIte, q_ss0, q_ssi, q_ssr, q_nr0, q_nr10, q_nr11, q_tlS, q_tlN, q_cl, q_let, q_lef, q_ltt, q_ltf, q_eqt, q_eqf, q_add, q_mul, Nat.reduceAdd, Nat.reduceLeDiff, Nat.reduceEqDiff, eq_self, Nat.zero_le, Nat.le_refl, not_false_eq_true, not_true_eq_false, true_and, and_true, and_self, if_true, if_false, p1.g0, p1.l1, hR]
    exact hQ
  have c4 : ¬ M 1 30 = nI 0 := fun z => c ((nI_eq (by omega) (by omega)).mp (hR.symm.trans z))
  have e : kpM M 1 30 = nI r := by rw [kpM_lo (by decide)]; exact hR
  unfold uwY at hQ
  rw [if_neg c4, if_neg c4, e, hR, q_cl (by omega)] at hQ
  have r1 : 1 ≤ r := by omega
  simp (disch := first | assumption | omega) only [e211_0, e211_1, e211_4, e211_6, e211_7, e211_10, e211_12, e211_13, e211_14, e211_17, e211_18, e211_21, e211_23, e211_23q, e211_23r, e211_23rq, e211_24, e211_25, e211_26, e211_27, e211_28, e211_29, e211_31, e211_33, e211_36, e211_37, e211_40, e211_41, e211_42, e211_45, e211_47, e211_49, e211_50, e211_53, e211_55, e211_56, e211_57, e211_58, e211_59, e211_60, e211_61, e211_62, e211_63, e211_64, e211_67, e211_71, e211_74, e211_76, e211_77, e211_23r, e211_23q, e211_23rq, q_gv0, q_gvs, q_isI1, q_isA1, q_hs0, q_hsn, q_hsi, q_hsr, q_hss, q_inc1, List.set_cons_zero, List.set_cons_succ, ↓reduceIte, q_ss0, q_ssi, q_ssr, q_nr0, q_nr10, q_nr11, q_tlS, q_tlN, q_cl, q_let, q_lef, q_ltt, q_ltf, q_eqt, q_eqf, q_add, q_mul, Nat.reduceAdd, Nat.reduceLeDiff, Nat.reduceEqDiff, eq_self, Nat.zero_le, Nat.le_refl, not_false_eq_true, not_true_eq_false, true_and, and_true, and_self, if_true, if_false, p1.o, p1.g0, p1.l1, p1.s1, hR, e, c, q_sub, cl157 h157]
  rw [show mv_up (kpM M) 1 30 (nI (r - 1)) = cpY (mv_up (kpM M) 1 30 (nI (r - 1))) (31 + 32 * (r - 1) + 2) 0 0 from cpY_0.symm]
  refine lp211 p1 q_upS (by omega) (fun z => ?_) 30 0 rfl
  have e2 : cpY (mv_up (kpM M) 1 30 (nI (r - 1))) (31 + 32 * (r - 1) + 2) 0 30 1 30 = nI (r - 1) := by rw [cpY_at (by omega), q_upS]
  simp (disch := first | assumption | omega) only [e211_70, e211_71, e211_74, e211_76, e211_77, q_gv0, q_gvs, q_isI1, q_isA1, q_hs0, q_hsn, q_hsi, q_hsr, q_hss, q_inc1, List.set_cons_zero, List.set_cons_succ, ↓reduceIte, q_ss0, q_ssi, q_ssr, q_nr0, q_nr10, q_nr11, q_tlS, q_tlN, q_cl, q_let, q_lef, q_ltt, q_ltf, q_eqt, q_eqf, q_add, q_mul, Nat.reduceAdd, Nat.reduceLeDiff, Nat.reduceEqDiff, eq_self, Nat.zero_le, Nat.le_refl, not_false_eq_true, not_true_eq_false, true_and, and_true, and_self, if_true, if_false, p1.g0, p1.l1, e2]
  exact hQ
def agY : Nat → Nat → mv_Mem → Nat × mv_Mem
  | 0, k, M => (k, M)
  | n + 1, k, M => if (M 1 30).toNatClampNeg < 24 then agY n (k + 1) (wvY M 0 ((M 6 k).toNatClampNeg / 10) ((M 6 k).toNatClampNeg % 10)) else (k, M)
theorem gMd {M : mv_Mem} (h : gM M) {k : Nat} (hk : k < (M 0 10).toNatClampNeg) : ∃ q w, q < 6 ∧ w < 2 ∧ M 6 k = nI (10 * q + w) ∧ (M 6 k).toNatClampNeg / 10 = q ∧ (M 6 k).toNatClampNeg % 10 = w := by
  obtain ⟨nP, h6, hP⟩ := h.2.1
  obtain ⟨q, w, h1, h2, h3⟩ := h.2.2.2.2.2.2.2 k hk
  rw [hP, q_cl (by omega)] at h1
  exact ⟨q, w, by omega, h2, h3, by rw [h3, q_cl (by omega), dv10 h2], by rw [h3, q_cl (by omega), md10 h2]⟩
theorem lp166 {S : Nat → mv_Sp} (h165 : S 165 = sp165) {sh : mv_Shp} {P : mv_Post} {nK : Nat} (p1 : oM sh) (hK8 : nK ≤ 8) :
    ∀ n k (M : mv_Mem), k + n = nK → gM M → cY M 0 → M 0 10 = nI nK → (∃ r, r < 25 ∧ M 1 30 = nI r) → P (some (.int (nI (agY n k M).1))) sh (agY n k M).2 →
      mr166 S P 31 [some (.ref 0), some (.int (nI k))] [] sh M 0 0
  | 0, k, M, h, hG, hC, hK, hR, hQ => by
    obtain rfl : k = nK := by omega
    rw [e166_31]
    simp (disch := first | assumption | omega) only [e166_0, e166_1, e166_4, e166_7, e166_9, e166_10, e166_11, e166_14, e166_16, e166_17, e166_19, e166_22, e166_24, e166_25, e166_26, e166_29, e166_30, e166_32, e166_33, e166_36, e166_39, e166_40, e166_43, e166_45, e166_46, e166_48, e166_51, e166_52, e166_53, e166_54, e166_57, e166_58, e166_59, e166_61, e166_62, e166_63, e166_66, e166_67, e166_68, e166_70, e166_71, e166_74, e166_74r, e166_75, e166_78, e166_81, e166_82, q_gv0, q_gvs, q_isI1, q_isA1, q_hs0, q_hsn, q_hsi, q_hsr, q_hss, q_inc1, List.set_cons_zero, List.set_cons_succ, ↓reduceIte, q_ss0, q_ssi, q_ssr, q_nr0, q_nr10, q_nr11, q_tlS, q_tlN, q_cl, q_let, q_lef, q_ltt, q_ltf, q_eqt, q_eqf, q_add, q_mul, Nat.reduceAdd, Nat.reduceLeDiff, Nat.reduceEqDiff, eq_self, Nat.zero_le, Nat.le_refl, not_false_eq_true, not_true_eq_false, true_and, and_true, and_self, if_true, if_false, p1.g10, hK]
    exact hQ
  | n + 1, k, M, h, hG, hC, hK, hR, hQ => by
    obtain ⟨r, hr, hR2⟩ := id hR
    unfold agY at hQ
    rw [hR2, q_cl (show r < 2147483648 by omega)] at hQ
    obtain ⟨q, w, hq, hw, hV, d1, d2⟩ := gMd hG (k := k) (by rw [hK, q_cl (by omega)]; omega)
    rw [e166_31]
    by_cases c : r < 24
    · rw [if_pos c, d1, d2] at hQ
      have r24 : ∃ r, r < 24 ∧ M 1 (0 + 30) = nI r := ⟨r, c, hR2⟩
      have l0 : 0 + 799 ≤ 9588 := by decide
      have d3 : (10 * q + w) / 10 = q := dv10 hw
      have d4 : (10 * q + w) % 10 = w := md10 hw
      simp (disch := first | assumption | omega) only [e166_0, e166_1, e166_4, e166_7, e166_9, e166_10, e166_11, e166_14, e166_16, e166_17, e166_19, e166_22, e166_24, e166_25, e166_26, e166_29, e166_30, e166_32, e166_33, e166_36, e166_39, e166_40, e166_43, e166_45, e166_46, e166_48, e166_51, e166_52, e166_53, e166_54, e166_57, e166_58, e166_59, e166_61, e166_62, e166_63, e166_66, e166_67, e166_68, e166_70, e166_71, e166_74, e166_74r, e166_75, e166_78, e166_81, e166_82, q_gv0, q_gvs, q_isI1, q_isA1, q_hs0, q_hsn, q_hsi, q_hsr, q_hss, q_inc1, List.set_cons_zero, List.set_cons_succ, ↓reduceIte, q_ss0, q_ssi, q_ssr, q_nr0, q_nr10, q_nr11, q_tlS, q_tlN, q_cl, q_let, q_lef, q_ltt, q_ltf, q_eqt, q_eqf, q_add, q_mul, Nat.reduceAdd, Nat.reduceLeDiff, Nat.reduceEqDiff, eq_self, Nat.zero_le, Nat.le_refl, not_false_eq_true, not_true_eq_false, true_and, and_true, and_self, if_true, if_false, p1.o, p1.g0, p1.g10, p1.g11, p1.l1, p1.l6, hK, hR2, hV, q_div, q_rem, d3, d4, cl165 h165]
      exact lp166 h165 p1 hK8 n (k + 1) _ (by omega) (gM_wvY hG) (cY_wvY hw hG hC) (by rw [wvY_out (by decide)]; exact hK) ⟨r + 1, by omega, by
        have := @wvY_row M 0 q w
        rw [show (0 + 30) = 30 from rfl, hR2, q_cl (by omega)] at this
        exact this⟩ hQ
    · rw [if_neg c] at hQ
      simp (disch := first | assumption | omega) only [e166_0, e166_1, e166_4, e166_7, e166_9, e166_10, e166_11, e166_14, e166_16, e166_17, e166_19, e166_22, e166_24, e166_25, e166_26, e166_29, e166_30, e166_32, e166_33, e166_36, e166_39, e166_40, e166_43, e166_45, e166_46, e166_48, e166_51, e166_52, e166_53, e166_54, e166_57, e166_58, e166_59, e166_61, e166_62, e166_63, e166_66, e166_67, e166_68, e166_70, e166_71, e166_74, e166_74r, e166_75, e166_78, e166_81, e166_82, q_gv0, q_gvs, q_isI1, q_isA1, q_hs0, q_hsn, q_hsi, q_hsr, q_hss, q_inc1, List.set_cons_zero, List.set_cons_succ, ↓reduceIte, q_ss0, q_ssi, q_ssr, q_nr0, q_nr10, q_nr11, q_tlS, q_tlN, q_cl, q_let, q_lef, q_ltt, q_ltf, q_eqt, q_eqf, q_add, q_mul, Nat.reduceAdd, Nat.reduceLeDiff, Nat.reduceEqDiff, eq_self, Nat.zero_le, Nat.le_refl, not_false_eq_true, not_true_eq_false, true_and, and_true, and_self, if_true, if_false, p1.g0, p1.g10, p1.l1, hK, hR2]
      exact hQ
def sp166 : mv_Sp := fun As sh M Q => As = [.ref 0] ∧ ((oM sh) ∧ (gM M) ∧ (cY M 0) ∧ (∃ n, n < 9 ∧ M 0 1 = nI n) ∧ (∃ r, r < 25 ∧ M 1 30 = nI r)) ∧ Q (some (.int (if M 0 10 = nI 0 then Int32.ofInt (-2) else if M 1 30 = nI 24 then Int32.ofInt (-3) else nI (agY (M 0 10).toNatClampNeg 0 (kpM M)).1))) (sh) (if M 0 10 = nI 0 then M else if M 1 30 = nI 24 then M else (agY (M 0 10).toNatClampNeg 0 (kpM M)).2)
theorem cl166 {S : Nat → mv_Sp} (hS : S 166 = sp166) {sh : mv_Shp} {M : mv_Mem}  (p1 : oM sh) (p2 : gM M) (p3 : cY M 0) (p4 : ∃ n, n < 9 ∧ M 0 1 = nI n) (p5 : ∃ r, r < 25 ∧ M 1 30 = nI r) {K : mv_Kt} {pc : Nat} {L : mv_Loc} {st : List Value} {cc_ ss_ : Nat} : mv_kal S 166 [.ref 0] sh M K pc L st cc_ ss_ = K pc L ((some (.int (if M 0 10 = nI 0 then Int32.ofInt (-2) else if M 1 30 = nI 24 then Int32.ofInt (-3) else nI (agY (M 0 10).toNatClampNeg 0 (kpM M)).1)) : Option Value).toList ++ st) (sh) (if M 0 10 = nI 0 then M else if M 1 30 = nI 24 then M else (agY (M 0 10).toNatClampNeg 0 (kpM M)).2) cc_ ss_ := by
  refine q_kal (fun F => q_cali (fun Q => ?_))
  rw [hS]
  constructor
  · rintro ⟨hE, ⟨zp1, zp2, zp3, zp4, zp5⟩, hQ⟩
    exact hQ
  · intro hQ
    exact ⟨rfl, ⟨p1, p2, p3, p4, p5⟩, hQ⟩
theorem ct166 {S : Nat → mv_Sp} (h157 : S 157 = sp157) (h165 : S 165 = sp165) : ∀ As sh M P, sp166 As sh M P → (mv_al0 As).length ≤ 2 ∧ mr166 S P 0 (mv_ent As 2) [] sh M 0 0 := by
  rintro As sh M P ⟨rfl, ⟨p1, p2, p3, p4, p5⟩, hQ⟩
  refine ⟨Nat.le_of_ble_eq_true rfl, ?_⟩
  show mr166 S P 0 [some (.ref 0), none] [] sh M 0 0
  obtain ⟨nK, hK8, hK⟩ := id p2.2.2.2.1
  obtain ⟨r, hr, hR⟩ := id p5
  by_cases c1 : nK = 0
  · subst c1
    rw [if_pos hK, if_pos hK] at hQ
    simp (disch := first | assumption | omega) only [e166_0, e166_1, e166_4, e166_7, e166_9, e166_10, e166_11, e166_14, e166_16, e166_17, e166_19, e166_22, e166_24, e166_25, e166_26, e166_29, e166_30, e166_32, e166_33, e166_36, e166_39, e166_40, e166_43, e166_45, e166_46, e166_48, e166_51, e166_52, e166_53, e166_54, e166_57, e166_58, e166_59, e166_61, e166_62, e166_63, e166_66, e166_67, e166_68, e166_70, e166_71, e166_74, e166_74r, e166_75, e166_78, e166_81, e166_82, q_gv0, q_gvs, q_isI1, q_isA1, q_hs0, q_hsn, q_hsi, q_hsr, q_hss, q_inc1, List.set_cons_zero, List.set_cons_succ, ↓reduceIte, q_ss0, q_ssi, q_ssr, q_nr0, q_nr10, q_nr11, q_tlS, q_tlN, q_cl, q_let, q_lef, q_ltt, q_ltf, q_eqt, q_eqf, q_add, q_mul, Nat.reduceAdd, Nat.reduceLeDiff, Nat.reduceEqDiff, eq_self, Nat.zero_le, Nat.le_refl, not_false_eq_true, not_true_eq_false, true_and, and_true, and_self, if_true, if_false, p1.g10, hK]
    exact hQ
  have c2 : ¬ M 0 10 = nI 0 := fun z => c1 ((nI_eq (by omega) (by omega)).mp (hK.symm.trans z))
  rw [if_neg c2, if_neg c2] at hQ
  by_cases c3 : r = 24
  · subst c3
    rw [if_pos hR, if_pos hR] at hQ
    simp (disch := first | assumption | omega) only [e166_0, e166_1, e166_4, e166_7, e166_9, e166_10, e166_11, e166_14, e166_16, e166_17, e166_19, e166_22, e166_24, e166_25, e166_26, e166_29, e166_30, e166_32, e166_33, e166_36, e166_39, e166_40, e166_43, e166_45, e166_46, e166_48, e166_51, e166_52, e166_53, e166_54, e166_57, e166_58, e166_59, e166_61, e166_62, e166_63, e166_66, e166_67, e166_68, e166_70, e166_71, e166_74, e166_74r, e166_75, e166_78, e166_81, e166_82, q_gv0, q_gvs, q_isI1, q_isA1, q_hs0, q_hsn, q_hsi, q_hsr, q_hss, q_inc1, List.set_cons_zero, List.set_cons_succ, ↓reduceIte, q_ss0, q_ssi, q_ssr, q_nr0, q_nr10, q_nr11, q_tlS, q_tlN, q_cl, q_let, q_lef, q_ltt, q_ltf, q_eqt, q_eqf, q_add, q_mul, Nat.reduceAdd, Nat.reduceLeDiff, Nat.reduceEqDiff, eq_self, Nat.zero_le, Nat.le_refl, not_false_eq_true, not_true_eq_false, true_and, and_true, and_self, if_true, if_false, p1.g10, p1.g0, p1.l1, hK, hR]
    exact hQ
  have c4 : ¬ M 1 30 = nI 24 := fun z => c3 ((nI_eq (by omega) (by omega)).mp (hR.symm.trans z))
  rw [if_neg c4, if_neg c4, hK, q_cl (by omega)] at hQ
  simp (disch := first | assumption | omega) only [e166_0, e166_1, e166_4, e166_7, e166_9, e166_10, e166_11, e166_14, e166_16, e166_17, e166_19, e166_22, e166_24, e166_25, e166_26, e166_29, e166_30, e166_32, e166_33, e166_36, e166_39, e166_40, e166_43, e166_45, e166_46, e166_48, e166_51, e166_52, e166_53, e166_54, e166_57, e166_58, e166_59, e166_61, e166_62, e166_63, e166_66, e166_67, e166_68, e166_70, e166_71, e166_74, e166_74r, e166_75, e166_78, e166_81, e166_82, q_gv0, q_gvs, q_isI1, q_isA1, q_hs0, q_hsn, q_hsi, q_hsr, q_hss, q_inc1, List.set_cons_zero, List.set_cons_succ, ↓reduceIte, q_ss0, q_ssi, q_ssr, q_nr0, q_nr10, q_nr11, q_tlS, q_tlN, q_cl, q_let, q_lef, q_ltt, q_ltf, q_eqt, q_eqf, q_add, q_mul, Nat.reduceAdd, Nat.reduceLeDiff, Nat.reduceEqDiff, eq_self, Nat.zero_le, Nat.le_refl, not_false_eq_true, not_true_eq_false, true_and, and_true, and_self, if_true, if_false, p1.o, p1.g10, p1.g0, p1.l1, hK, hR, cl157 h157]
  exact lp166 h165 p1 hK8 nK 0 (kpM M) (by omega) (gM_kp p2) (cY_kp p2 p3) (by rw [kpM_0 (by decide)]; exact hK) ⟨r, hr, by rw [kpM_lo (by decide)]; exact hR⟩ hQ
def twY (M : mv_Mem) (t : Nat) : Nat → Int32
  | 0 => nI 0
  | k + 1 => if M 5 ((M 6 k).toNatClampNeg / 10) >>> (nI t &&& 31) &&& nI 1 = nI 1 then twY M t k + qf (M 2 t).toNatClampNeg ((M 6 k).toNatClampNeg % 10) else twY M t k
theorem i0a (x : Int32) : x + nI 0 = x := Int32.add_zero x
theorem lp191 {S : Nat → mv_Sp} (h148 : S 148 = sp148) (h158 : S 158 = sp158) {sh : mv_Shp} {M : mv_Mem} {P : mv_Post} {t nK : Nat} (p1 : oM sh) (hG : gM M) (ht : t < (M 0 3).toNatClampNeg) (hK : M 0 10 = nI nK) (hK8 : nK ≤ 8) (hQ : P (some (.int (twY M t nK))) sh M) :
    ∀ n k, k + n = nK → mr191 S P 4 [some (.ref 0), some (.int (nI t)), some (.int (twY M t k)), some (.int (nI k))] [] sh M 0 0
  | 0, k, h => by
    obtain rfl : k = nK := by omega
    rw [e191_4]
    simp (disch := first | assumption | omega) only [e191_0, e191_1, e191_2, e191_3, e191_5, e191_6, e191_9, e191_12, e191_13, e191_14, e191_17, e191_18, e191_21, e191_22, e191_23, e191_25, e191_26, e191_27, e191_28, e191_31, e191_34, e191_35, e191_36, e191_37, e191_40, e191_41, e191_42, e191_44, e191_45, e191_48, e191_51, e191_52, e191_53, e191_54, e191_57, e191_60, e191_61, q_gv0, q_gvs, q_isI1, q_isA1, q_hs0, q_hsn, q_hsi, q_hsr, q_hss, q_inc1, List.set_cons_zero, List.set_cons_succ, ↓reduceIte, q_ss0, q_ssi, q_ssr, q_nr0, q_nr10, q_nr11, q_tlS, q_tlN, q_cl, q_let, q_lef, q_ltt, q_ltf, q_eqt, q_eqf, q_add, q_mul, Nat.reduceAdd, Nat.reduceLeDiff, Nat.reduceEqDiff, eq_self, Nat.zero_le, Nat.le_refl, not_false_eq_true, not_true_eq_false, true_and, and_true, and_self, if_true, if_false, p1.g10, hK]
    exact hQ
  | n + 1, k, h => by
    have ih := lp191 h148 h158 p1 hG ht hK hK8 hQ n (k + 1) (by omega)
    obtain ⟨q, w, hq, hw, hV, d1, d2⟩ := gMd hG (k := k) (by rw [hK, q_cl (by omega)]; omega)
    have t6 : t < 6 := Nat.lt_of_lt_of_le ht (gM6 hG)
    have hk4 : ∃ q, q < 4 ∧ M 2 t = nI q := hG.2.2.2.2.1 t ht
    unfold twY at ih
    rw [d1, d2] at ih
    have d3 : (10 * q + w) / 10 = q := dv10 hw
    have d4 : (10 * q + w) % 10 = w := md10 hw
    rw [e191_4]
    by_cases c : M 5 q >>> (nI t &&& 31) &&& nI 1 = nI 1
    · rw [if_pos c] at ih
      simp (disch := first | assumption | omega) only [e191_0, e191_1, e191_2, e191_3, e191_5, e191_6, e191_9, e191_12, e191_13, e191_14, e191_17, e191_18, e191_21, e191_22, e191_23, e191_25, e191_26, e191_27, e191_28, e191_31, e191_34, e191_35, e191_36, e191_37, e191_40, e191_41, e191_42, e191_44, e191_45, e191_48, e191_51, e191_52, e191_53, e191_54, e191_57, e191_60, e191_61, q_gv0, q_gvs, q_isI1, q_isA1, q_hs0, q_hsn, q_hsi, q_hsr, q_hss, q_inc1, List.set_cons_zero, List.set_cons_succ, ↓reduceIte, q_ss0, q_ssi, q_ssr, q_nr0, q_nr10, q_nr11, q_tlS, q_tlN, q_cl, q_let, q_lef, q_ltt, q_ltf, q_eqt, q_eqf, q_add, q_mul, Nat.reduceAdd, Nat.reduceLeDiff, Nat.reduceEqDiff, eq_self, Nat.zero_le, Nat.le_refl, not_false_eq_true, not_true_eq_false, true_and, and_true, and_self, if_true, if_false, p1.o, p1.g8, p1.g10, p1.g11, p1.l5, p1.l6, hK, hV, q_div, q_rem, d3, d4, cl148 h148, cl158 h158, c]
      exact ih
    · rw [if_neg c] at ih
      simp (disch := first | assumption | omega) only [e191_0, e191_1, e191_2, e191_3, e191_5, e191_6, e191_9, e191_12, e191_13, e191_14, e191_17, e191_18, e191_21, e191_22, e191_23, e191_25, e191_26, e191_27, e191_28, e191_31, e191_34, e191_35, e191_36, e191_37, e191_40, e191_41, e191_42, e191_44, e191_45, e191_48, e191_51, e191_52, e191_53, e191_54, e191_57, e191_60, e191_61, q_gv0, q_gvs, q_isI1, q_isA1, q_hs0, q_hsn, q_hsi, q_hsr, q_hss, q_inc1, List.set_cons_zero, List.set_cons_succ, ↓reduceIte, q_ss0, q_ssi, q_ssr, q_nr0, q_nr10, q_nr11, q_tlS, q_tlN, q_cl, q_let, q_lef, q_ltt, q_ltf, q_eqt, q_eqf, q_add, q_mul, Nat.reduceAdd, Nat.reduceLeDiff, Nat.reduceEqDiff, eq_self, Nat.zero_le, Nat.le_refl, not_false_eq_true, not_true_eq_false, true_and, and_true, and_self, if_true, if_false, p1.o, p1.g8, p1.g10, p1.g11, p1.l5, p1.l6, hK, hV, q_div, q_rem, d3, d4, cl148 h148, c, i0a]
      exact ih
def sp191 : mv_Sp := fun As sh M Q => ∃ (t : Nat), As = [.ref 0, .int (nI t)] ∧ ((oM sh) ∧ (gM M) ∧ (t < (M 0 3).toNatClampNeg) ∧ (t < 6)) ∧ Q (some (.int (twY M t (M 0 10).toNatClampNeg))) (sh) (M)
theorem cl191 {S : Nat → mv_Sp} (hS : S 191 = sp191) {sh : mv_Shp} {M : mv_Mem} {t : Nat} (p1 : oM sh) (p2 : gM M) (p3 : t < (M 0 3).toNatClampNeg) (p4 : t < 6) {K : mv_Kt} {pc : Nat} {L : mv_Loc} {st : List Value} {cc_ ss_ : Nat} : mv_kal S 191 [.ref 0, .int (nI t)] sh M K pc L st cc_ ss_ = K pc L ((some (.int (twY M t (M 0 10).toNatClampNeg)) : Option Value).toList ++ st) (sh) (M) cc_ ss_ := by
  refine q_kal (fun F => q_cali (fun Q => ?_))
  rw [hS]
  constructor
  · rintro ⟨t', hE, ⟨zp1, zp2, zp3, zp4⟩, hQ⟩
    simp only [List.cons.injEq, Value.ref.injEq, Value.int.injEq, Value.long.injEq, and_true, true_and] at hE
    have e_t := hE
    have z_t := nI_inj e_t (by omega) (by omega)
    subst z_t
    exact hQ
  · intro hQ
    exact ⟨t, rfl, ⟨p1, p2, p3, p4⟩, hQ⟩
theorem ct191 {S : Nat → mv_Sp} (h148 : S 148 = sp148) (h158 : S 158 = sp158) : ∀ As sh M P, sp191 As sh M P → (mv_al0 As).length ≤ 4 ∧ mr191 S P 0 (mv_ent As 4) [] sh M 0 0 := by
  rintro As sh M P ⟨t, rfl, ⟨p1, p2, p3, p4⟩, hQ⟩
  refine ⟨Nat.le_of_ble_eq_true rfl, ?_⟩
  show mr191 S P 0 [some (.ref 0), some (.int (nI t)), none, none] [] sh M 0 0
  obtain ⟨nK, hK8, hK⟩ := id p2.2.2.2.1
  rw [hK, q_cl (by omega)] at hQ
  simp (disch := first | assumption | omega) only [e191_0, e191_1, e191_2, e191_3, q_gv0, q_gvs, q_isI1, q_isA1, q_hs0, q_hsn, q_hsi, q_hsr, q_hss, q_inc1, List.set_cons_zero, List.set_cons_succ, ↓reduceIte, q_ss0, q_ssi, q_ssr, q_nr0, q_nr10, q_nr11, q_tlS, q_tlN, q_cl, q_let, q_lef, q_ltt, q_ltf, q_eqt, q_eqf, q_add, q_mul, Nat.reduceAdd, Nat.reduceLeDiff, Nat.reduceEqDiff, eq_self, Nat.zero_le, Nat.le_refl, not_false_eq_true, not_true_eq_false, true_and, and_true, and_self, if_true, if_false]
  exact lp191 h148 h158 p1 p2 p3 hK hK8 hQ nK 0 (by omega)
/-- by how many rounds a tablet comes round -/
def owY (M : mv_Mem) (t : Nat) : Nat := if twY M t (M 0 10).toNatClampNeg &&& nI 3 = nI 0 then 1 else if twY M t (M 0 10).toNatClampNeg &&& nI 3 = nI 2 then 2 else 4
def rdY (M : mv_Mem) : Nat → Nat
  | 0 => 1
  | t + 1 => if rdY M t < owY M t then owY M t else rdY M t
theorem owY_le (M : mv_Mem) (t : Nat) : owY M t ≤ 4 := by
  unfold owY
  split
  · decide
  split <;> decide
theorem rdY_le (M : mv_Mem) : ∀ t, rdY M t ≤ 4
  | 0 => by unfold rdY; decide
  | t + 1 => by
    unfold rdY
    split
    · exact owY_le M t
    · exact rdY_le M t
theorem lp202 {S : Nat → mv_Sp} (h191 : S 191 = sp191) {sh : mv_Shp} {M : mv_Mem} {P : mv_Post} {nT : Nat} (p1 : oM sh) (hG : gM M) (hT : M 0 3 = nI nT) (hT6 : nT ≤ 6) (hQ : P (some (.int (nI (rdY M nT)))) sh M) :
    ∀ n t y z, t + n = nT → mr202 S P 14 [some (.ref 0), some (.int (nI (rdY M t))), some (.int (nI t)), y, z] [] sh M 0 0
  | 0, t, y, z, h => by
    obtain rfl : t = nT := by omega
    rw [e202_14]
    simp (disch := first | assumption | omega) only [e202_0, e202_1, e202_4, e202_7, e202_9, e202_10, e202_11, e202_12, e202_13, e202_15, e202_16, e202_19, e202_22, e202_23, e202_24, e202_27, e202_28, e202_29, e202_30, e202_31, e202_34, e202_35, e202_38, e202_39, e202_40, e202_43, e202_44, e202_47, e202_48, e202_50, e202_52, e202_53, e202_56, e202_58, e202_61, e202_62, e202_63, e202_66, e202_69, e202_70, q_gv0, q_gvs, q_isI1, q_isA1, q_hs0, q_hsn, q_hsi, q_hsr, q_hss, q_inc1, List.set_cons_zero, List.set_cons_succ, ↓reduceIte, q_ss0, q_ssi, q_ssr, q_nr0, q_nr10, q_nr11, q_tlS, q_tlN, q_cl, q_let, q_lef, q_ltt, q_ltf, q_eqt, q_eqf, q_add, q_mul, Nat.reduceAdd, Nat.reduceLeDiff, Nat.reduceEqDiff, eq_self, Nat.zero_le, Nat.le_refl, not_false_eq_true, not_true_eq_false, true_and, and_true, and_self, if_true, if_false, p1.g3, hT]
    exact hQ
  | n + 1, t, y, z, h => by
    have ih := lp202 h191 p1 hG hT hT6 hQ n (t + 1)
    have tT : t < (M 0 3).toNatClampNeg := by rw [hT, q_cl (by omega)]; omega
    have t6 : t < 6 := by omega
    have b1 := rdY_le M t
    have b2 := owY_le M t
    unfold rdY at ih
    rw [e202_14]
    by_cases c1 : twY M t (M 0 10).toNatClampNeg &&& nI 3 = nI 0
    · have e : owY M t = 1 := if_pos c1
      rw [e] at ih
      have c4 : ¬ rdY M t < 1 := by
        have : ∀ t, 1 ≤ rdY M t := by
          intro t
          induction t with
          | zero => exact Nat.le_refl _
          | succ t iht =>
            unfold rdY
            split
            · omega
            · exact iht
        have := this t
        omega
      rw [if_neg c4] at ih
      simp (disch := first | assumption | omega) only [e202_0, e202_1, e202_4, e202_7, e202_9, e202_10, e202_11, e202_12, e202_13, e202_15, e202_16, e202_19, e202_22, e202_23, e202_24, e202_27, e202_28, e202_29, e202_30, e202_31, e202_34, e202_35, e202_38, e202_39, e202_40, e202_43, e202_44, e202_47, e202_48, e202_50, e202_52, e202_53, e202_56, e202_58, e202_61, e202_62, e202_63, e202_66, e202_69, e202_70, q_gv0, q_gvs, q_isI1, q_isA1, q_hs0, q_hsn, q_hsi, q_hsr, q_hss, q_inc1, List.set_cons_zero, List.set_cons_succ, ↓reduceIte, q_ss0, q_ssi, q_ssr, q_nr0, q_nr10, q_nr11, q_tlS, q_tlN, q_cl, q_let, q_lef, q_ltt, q_ltf, q_eqt, q_eqf, q_add, q_mul, Nat.reduceAdd, Nat.reduceLeDiff, Nat.reduceEqDiff, eq_self, Nat.zero_le, Nat.le_refl, not_false_eq_true, not_true_eq_false, true_and, and_true, and_self, if_true, if_false, p1.o, p1.g3, hT, cl191 h191, c1]
      exact ih _ _ (by omega)
    · by_cases c2 : twY M t (M 0 10).toNatClampNeg &&& nI 3 = nI 2
      · have e : owY M t = 2 := by unfold owY; rw [if_neg c1, if_pos c2]
        rw [e] at ih
        have c5 : ¬ nI 2 = nI 0 := by decide
        by_cases c4 : rdY M t < 2
        · rw [if_pos c4] at ih
          simp (disch := first | assumption | omega) only [e202_0, e202_1, e202_4, e202_7, e202_9, e202_10, e202_11, e202_12, e202_13, e202_15, e202_16, e202_19, e202_22, e202_23, e202_24, e202_27, e202_28, e202_29, e202_30, e202_31, e202_34, e202_35, e202_38, e202_39, e202_40, e202_43, e202_44, e202_47, e202_48, e202_50, e202_52, e202_53, e202_56, e202_58, e202_61, e202_62, e202_63, e202_66, e202_69, e202_70, q_gv0, q_gvs, q_isI1, q_isA1, q_hs0, q_hsn, q_hsi, q_hsr, q_hss, q_inc1, List.set_cons_zero, List.set_cons_succ, ↓reduceIte, q_ss0, q_ssi, q_ssr, q_nr0, q_nr10, q_nr11, q_tlS, q_tlN, q_cl, q_let, q_lef, q_ltt, q_ltf, q_eqt, q_eqf, q_add, q_mul, Nat.reduceAdd, Nat.reduceLeDiff, Nat.reduceEqDiff, eq_self, Nat.zero_le, Nat.le_refl, not_false_eq_true, not_true_eq_false, true_and, and_true, and_self, if_true, if_false, p1.o, p1.g3, hT, cl191 h191, c2, c5]
          exact ih _ _ (by omega)
        · rw [if_neg c4] at ih
          simp (disch := first | assumption | omega) only [e202_0, e202_1, e202_4, e202_7, e202_9, e202_10, e202_11, e202_12, e202_13, e202_15, e202_16, e202_19, e202_22, e202_23, e202_24, e202_27, e202_28, e202_29, e202_30, e202_31, e202_34, e202_35, e202_38, e202_39, e202_40, e202_43, e202_44, e202_47, e202_48, e202_50, e202_52, e202_53, e202_56, e202_58, e202_61, e202_62, e202_63, e202_66, e202_69, e202_70, q_gv0, q_gvs, q_isI1, q_isA1, q_hs0, q_hsn, q_hsi, q_hsr, q_hss, q_inc1, List.set_cons_zero, List.set_cons_succ, ↓reduceIte, q_ss0, q_ssi, q_ssr, q_nr0, q_nr10, q_nr11, q_tlS, q_tlN, q_cl, q_let, q_lef, q_ltt, q_ltf, q_eqt, q_eqf, q_add, q_mul, Nat.reduceAdd, Nat.reduceLeDiff, Nat.reduceEqDiff, eq_self, Nat.zero_le, Nat.le_refl, not_false_eq_true, not_true_eq_false, true_and, and_true, and_self, if_true, if_false, p1.o, p1.g3, hT, cl191 h191, c2, c5]
          exact ih _ _ (by omega)
      · have e : owY M t = 4 := by unfold owY; rw [if_neg c1, if_neg c2]
        rw [e] at ih
        by_cases c4 : rdY M t < 4
        · rw [if_pos c4] at ih
          simp (disch := first | assumption | omega) only [e202_0, e202_1, e202_4, e202_7, e202_9, e202_10, e202_11, e202_12, e202_13, e202_15, e202_16, e202_19, e202_22, e202_23, e202_24, e202_27, e202_28, e202_29, e202_30, e202_31, e202_34, e202_35, e202_38, e202_39, e202_40, e202_43, e202_44, e202_47, e202_48, e202_50, e202_52, e202_53, e202_56, e202_58, e202_61, e202_62, e202_63, e202_66, e202_69, e202_70, q_gv0, q_gvs, q_isI1, q_isA1, q_hs0, q_hsn, q_hsi, q_hsr, q_hss, q_inc1, List.set_cons_zero, List.set_cons_succ, ↓reduceIte, q_ss0, q_ssi, q_ssr, q_nr0, q_nr10, q_nr11, q_tlS, q_tlN, q_cl, q_let, q_lef, q_ltt, q_ltf, q_eqt, q_eqf, q_add, q_mul, Nat.reduceAdd, Nat.reduceLeDiff, Nat.reduceEqDiff, eq_self, Nat.zero_le, Nat.le_refl, not_false_eq_true, not_true_eq_false, true_and, and_true, and_self, if_true, if_false, p1.o, p1.g3, hT, cl191 h191, c1, c2]
          exact ih _ _ (by omega)
        · rw [if_neg c4] at ih
          simp (disch := first | assumption | omega) only [e202_0, e202_1, e202_4, e202_7, e202_9, e202_10, e202_11, e202_12, e202_13, e202_15, e202_16, e202_19, e202_22, e202_23, e202_24, e202_27, e202_28, e202_29, e202_30, e202_31, e202_34, e202_35, e202_38, e202_39, e202_40, e202_43, e202_44, e202_47, e202_48, e202_50, e202_52, e202_53, e202_56, e202_58, e202_61, e202_62, e202_63, e202_66, e202_69, e202_70, q_gv0, q_gvs, q_isI1, q_isA1, q_hs0, q_hsn, q_hsi, q_hsr, q_hss, q_inc1, List.set_cons_zero, List.set_cons_succ, ↓reduceIte, q_ss0, q_ssi, q_ssr, q_nr0, q_nr10, q_nr11, q_tlS, q_tlN, q_cl, q_let, q_lef, q_ltt, q_ltf, q_eqt, q_eqf, q_add, q_mul, Nat.reduceAdd, Nat.reduceLeDiff, Nat.reduceEqDiff, eq_self, Nat.zero_le, Nat.le_refl, not_false_eq_true, not_true_eq_false, true_and, and_true, and_self, if_true, if_false, p1.o, p1.g3, hT, cl191 h191, c1, c2]
          exact ih _ _ (by omega)
def sp202 : mv_Sp := fun As sh M Q => As = [.ref 0] ∧ ((oM sh) ∧ (gM M)) ∧ Q (some (.int (if M 0 10 = nI 0 then Int32.ofInt (-4) else nI (rdY M (M 0 3).toNatClampNeg)))) (sh) (M)
theorem cl202 {S : Nat → mv_Sp} (hS : S 202 = sp202) {sh : mv_Shp} {M : mv_Mem}  (p1 : oM sh) (p2 : gM M) {K : mv_Kt} {pc : Nat} {L : mv_Loc} {st : List Value} {cc_ ss_ : Nat} : mv_kal S 202 [.ref 0] sh M K pc L st cc_ ss_ = K pc L ((some (.int (if M 0 10 = nI 0 then Int32.ofInt (-4) else nI (rdY M (M 0 3).toNatClampNeg))) : Option Value).toList ++ st) (sh) (M) cc_ ss_ := by
  refine q_kal (fun F => q_cali (fun Q => ?_))
  rw [hS]
  constructor
  · rintro ⟨hE, ⟨zp1, zp2⟩, hQ⟩
    exact hQ
  · intro hQ
    exact ⟨rfl, ⟨p1, p2⟩, hQ⟩
theorem ct202 {S : Nat → mv_Sp} (h191 : S 191 = sp191) : ∀ As sh M P, sp202 As sh M P → (mv_al0 As).length ≤ 5 ∧ mr202 S P 0 (mv_ent As 5) [] sh M 0 0 := by
  rintro As sh M P ⟨rfl, ⟨p1, p2⟩, hQ⟩
  refine ⟨Nat.le_of_ble_eq_true rfl, ?_⟩
  show mr202 S P 0 [some (.ref 0), none, none, none, none] [] sh M 0 0
  obtain ⟨nT, h6, hT⟩ := id p2.1
  obtain ⟨nK, hK8, hK⟩ := id p2.2.2.2.1
  by_cases c1 : nK = 0
  · subst c1
    rw [if_pos hK] at hQ
    simp (disch := first | assumption | omega) only [e202_0, e202_1, e202_4, e202_7, e202_9, e202_10, e202_11, e202_12, e202_13, e202_15, e202_16, e202_19, e202_22, e202_23, e202_24, e202_27, e202_28, e202_29, e202_30, e202_31, e202_34, e202_35, e202_38, e202_39, e202_40, e202_43, e202_44, e202_47, e202_48, e202_50, e202_52, e202_53, e202_56, e202_58, e202_61, e202_62, e202_63, e202_66, e202_69, e202_70, q_gv0, q_gvs, q_isI1, q_isA1, q_hs0, q_hsn, q_hsi, q_hsr, q_hss, q_inc1, List.set_cons_zero, List.set_cons_succ, ↓reduceIte, q_ss0, q_ssi, q_ssr, q_nr0, q_nr10, q_nr11, q_tlS, q_tlN, q_cl, q_let, q_lef, q_ltt, q_ltf, q_eqt, q_eqf, q_add, q_mul, Nat.reduceAdd, Nat.reduceLeDiff, Nat.reduceEqDiff, eq_self, Nat.zero_le, Nat.le_refl, not_false_eq_true, not_true_eq_false, true_and, and_true, and_self, if_true, if_false, p1.g10, hK]
    exact hQ
  have c2 : ¬ M 0 10 = nI 0 := fun z => c1 ((nI_eq (by omega) (by omega)).mp (hK.symm.trans z))
  rw [if_neg c2, hT, q_cl (by omega)] at hQ
  simp (disch := first | assumption | omega) only [e202_0, e202_1, e202_4, e202_7, e202_9, e202_10, e202_11, e202_12, e202_13, e202_15, e202_16, e202_19, e202_22, e202_23, e202_24, e202_27, e202_28, e202_29, e202_30, e202_31, e202_34, e202_35, e202_38, e202_39, e202_40, e202_43, e202_44, e202_47, e202_48, e202_50, e202_52, e202_53, e202_56, e202_58, e202_61, e202_62, e202_63, e202_66, e202_69, e202_70, q_gv0, q_gvs, q_isI1, q_isA1, q_hs0, q_hsn, q_hsi, q_hsr, q_hss, q_inc1, List.set_cons_zero, List.set_cons_succ, ↓reduceIte, q_ss0, q_ssi, q_ssr, q_nr0, q_nr10, q_nr11, q_tlS, q_tlN, q_cl, q_let, q_lef, q_ltt, q_ltf, q_eqt, q_eqf, q_add, q_mul, Nat.reduceAdd, Nat.reduceLeDiff, Nat.reduceEqDiff, eq_self, Nat.zero_le, Nat.le_refl, not_false_eq_true, not_true_eq_false, true_and, and_true, and_self, if_true, if_false, p1.g10, hK]
  exact lp202 h191 p1 p2 hT h6 hQ nT 0 none none (by omega)
def sp209 : mv_Sp := fun As sh M Q => ∃ (x : Int32), As = [.ref 0, .int x] ∧ ((oM sh) ∧ (gM M)) ∧ Q (some (.int (if x < nI 0 then Int32.ofInt (-1) else if M 0 3 ≤ x then Int32.ofInt (-1) else twY M x.toNatClampNeg (M 0 10).toNatClampNeg + nI 40))) (sh) (M)
theorem cl209 {S : Nat → mv_Sp} (hS : S 209 = sp209) {sh : mv_Shp} {M : mv_Mem} {x : Int32} (p1 : oM sh) (p2 : gM M) {K : mv_Kt} {pc : Nat} {L : mv_Loc} {st : List Value} {cc_ ss_ : Nat} : mv_kal S 209 [.ref 0, .int x] sh M K pc L st cc_ ss_ = K pc L ((some (.int (if x < nI 0 then Int32.ofInt (-1) else if M 0 3 ≤ x then Int32.ofInt (-1) else twY M x.toNatClampNeg (M 0 10).toNatClampNeg + nI 40)) : Option Value).toList ++ st) (sh) (M) cc_ ss_ := by
  refine q_kal (fun F => q_cali (fun Q => ?_))
  rw [hS]
  constructor
  · rintro ⟨x', hE, ⟨zp1, zp2⟩, hQ⟩
    simp only [List.cons.injEq, Value.ref.injEq, Value.int.injEq, Value.long.injEq, and_true, true_and] at hE
    subst hE
    exact hQ
  · intro hQ
    exact ⟨x, rfl, ⟨p1, p2⟩, hQ⟩
theorem ct209 {S : Nat → mv_Sp} (h181 : S 181 = sp181) (h191 : S 191 = sp191) : ∀ As sh M P, sp209 As sh M P → (mv_al0 As).length ≤ 2 ∧ mr209 S P 0 (mv_ent As 2) [] sh M 0 0 := by
  rintro As sh M P ⟨x, rfl, ⟨p1, p2⟩, hQ⟩
  refine ⟨Nat.le_of_ble_eq_true rfl, ?_⟩
  show mr209 S P 0 [some (.ref 0), some (.int x)] [] sh M 0 0
  obtain ⟨n, hn, hN⟩ := id p2.1
  have hn2 : ∃ n, n ≤ 6 ∧ M 0 3 = nI n := p2.1
  rcases i32_c x with c1 | ⟨k, hk, rfl⟩
  · simp only [c1, if_true] at hQ
    simp (disch := first | assumption | omega) only [e209_0, e209_1, e209_2, e209_5, e209_8, e209_9, e209_10, e209_13, e209_15, e209_16, e209_19, e209_20, q_gv0, q_gvs, q_isI1, q_isA1, q_hs0, q_hsn, q_hsi, q_hsr, q_hss, q_inc1, List.set_cons_zero, List.set_cons_succ, ↓reduceIte, q_ss0, q_ssi, q_ssr, q_nr0, q_nr10, q_nr11, q_tlS, q_tlN, q_cl, q_let, q_lef, q_ltt, q_ltf, q_eqt, q_eqf, q_add, q_mul, Nat.reduceAdd, Nat.reduceLeDiff, Nat.reduceEqDiff, eq_self, Nat.zero_le, Nat.le_refl, not_false_eq_true, not_true_eq_false, true_and, and_true, and_self, if_true, if_false, p1.o, cl181 h181, c1]
    exact hQ
  have c1 : (nI k < nI 0) = False := q_ltf (by omega) hk
  simp only [c1, if_false] at hQ
  by_cases c2 : n ≤ k
  · have c3 : (nI n ≤ nI k) = True := q_let c2 hk
    simp only [hN, c3, if_true] at hQ
    simp (disch := first | assumption | omega) only [e209_0, e209_1, e209_2, e209_5, e209_8, e209_9, e209_10, e209_13, e209_15, e209_16, e209_19, e209_20, q_gv0, q_gvs, q_isI1, q_isA1, q_hs0, q_hsn, q_hsi, q_hsr, q_hss, q_inc1, List.set_cons_zero, List.set_cons_succ, ↓reduceIte, q_ss0, q_ssi, q_ssr, q_nr0, q_nr10, q_nr11, q_tlS, q_tlN, q_cl, q_let, q_lef, q_ltt, q_ltf, q_eqt, q_eqf, q_add, q_mul, Nat.reduceAdd, Nat.reduceLeDiff, Nat.reduceEqDiff, eq_self, Nat.zero_le, Nat.le_refl, not_false_eq_true, not_true_eq_false, true_and, and_true, and_self, if_true, if_false, p1.o, cl181 h181, c1, hN, c3]
    exact hQ
  have c3 : (nI n ≤ nI k) = False := q_lef (by omega) (by omega)
  simp only [hN, c3, if_false, q_cl hk] at hQ
  have kT : k < (M 0 3).toNatClampNeg := by rw [hN, q_cl (by omega)]; omega
  have k6 : k < 6 := by omega
  simp (disch := first | assumption | omega) only [e209_0, e209_1, e209_2, e209_5, e209_8, e209_9, e209_10, e209_13, e209_15, e209_16, e209_19, e209_20, q_gv0, q_gvs, q_isI1, q_isA1, q_hs0, q_hsn, q_hsi, q_hsr, q_hss, q_inc1, List.set_cons_zero, List.set_cons_succ, ↓reduceIte, q_ss0, q_ssi, q_ssr, q_nr0, q_nr10, q_nr11, q_tlS, q_tlN, q_cl, q_let, q_lef, q_ltt, q_ltf, q_eqt, q_eqf, q_add, q_mul, Nat.reduceAdd, Nat.reduceLeDiff, Nat.reduceEqDiff, eq_self, Nat.zero_le, Nat.le_refl, not_false_eq_true, not_true_eq_false, true_and, and_true, and_self, if_true, if_false, p1.o, cl181 h181, cl191 h191, c1, hN, c3]
  exact hQ
