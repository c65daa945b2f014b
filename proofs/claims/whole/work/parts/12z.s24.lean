/-! the cloth touched by hand -/
def sp92 : mv_Sp := fun As sh M Q => ∃ (x : Int32), As = [.ref 0, .int x] ∧ ((oX sh) ∧ (∃ n, n ≤ 6 ∧ M 3 0 = nI n) ∧ (∃ e, e < 8 ∧ M 0 6 &&& nI 7 = nI e) ∧ (∃ n, n < 9 ∧ M 0 7 = nI n) ∧ (∃ r, r < 25 ∧ M 18 2 = nI r)) ∧ Q (some (.int (if x < nI 0 then Int32.ofInt (-1) else if M 3 0 ≤ x then Int32.ofInt (-1) else M 19 (x.toNatClampNeg * 5 + 1) + nI 40))) (sh) (if x < nI 0 then M else if M 3 0 ≤ x then M else mv_up (rmM M) 19 (x.toNatClampNeg * 5 + 1) (nI 0))
theorem cl92 {S : Nat → mv_Sp} (hS : S 92 = sp92) {sh : mv_Shp} {M : mv_Mem} {x : Int32} (p1 : oX sh) (p2 : ∃ n, n ≤ 6 ∧ M 3 0 = nI n) (p3 : ∃ e, e < 8 ∧ M 0 6 &&& nI 7 = nI e) (p4 : ∃ n, n < 9 ∧ M 0 7 = nI n) (p5 : ∃ r, r < 25 ∧ M 18 2 = nI r) {K : mv_Kt} {pc : Nat} {L : mv_Loc} {st : List Value} {cc_ ss_ : Nat} : mv_kal S 92 [.ref 0, .int x] sh M K pc L st cc_ ss_ = K pc L ((some (.int (if x < nI 0 then Int32.ofInt (-1) else if M 3 0 ≤ x then Int32.ofInt (-1) else M 19 (x.toNatClampNeg * 5 + 1) + nI 40)) : Option Value).toList ++ st) (sh) (if x < nI 0 then M else if M 3 0 ≤ x then M else mv_up (rmM M) 19 (x.toNatClampNeg * 5 + 1) (nI 0)) cc_ ss_ := by
  refine q_kal (fun F => q_cali (fun Q => ?_))
  rw [hS]
  constructor
  · rintro ⟨x', hE, ⟨zp1, zp2, zp3, zp4, zp5⟩, hQ⟩
    simp only [List.cons.injEq, Value.ref.injEq, Value.int.injEq, Value.long.injEq, and_true, true_and] at hE
    subst hE
    exact hQ
  · intro hQ
    exact ⟨x, rfl, ⟨p1, p2, p3, p4, p5⟩, hQ⟩
theorem ct92 {S : Nat → mv_Sp} (h44 : S 44 = sp44) (h53 : S 53 = sp53) (h61 : S 61 = sp61) (h91 : S 91 = sp91) : ∀ As sh M P, sp92 As sh M P → (mv_al0 As).length ≤ 3 ∧ mr92 S P 0 (mv_ent As 3) [] sh M 0 0 := by
  rintro As sh M P ⟨x, rfl, ⟨p1, p2, p3, p4, p5⟩, hQ⟩
  refine ⟨Nat.le_of_ble_eq_true rfl, ?_⟩
  show mr92 S P 0 [some (.ref 0), some (.int x), none] [] sh M 0 0
  have hc := p1.cloth
  obtain ⟨n, hn, hN⟩ := id p2
  rcases i32_c x with c1 | ⟨k, hk, rfl⟩
  · simp only [c1, if_true] at hQ
    simp (disch := first | assumption | omega) only [e92_0, e92_1, e92_2, e92_5, e92_8, e92_9, e92_10, e92_11, e92_14, e92_15, e92_18, e92_19, e92_20, e92_23, e92_24, e92_25, e92_28, e92_29, e92_30, e92_31, e92_34, e92_35, e92_37, e92_38, q_gv0, q_gvs, q_isI1, q_isA1, q_hs0, q_hsn, q_hsi, q_hsr, q_hss, q_inc1, List.set_cons_zero, List.set_cons_succ, ↓reduceIte, q_ss0, q_ssi, q_ssr, q_nr0, q_nr10, q_nr11, q_tlS, q_tlN, q_cl, q_let, q_lef, q_ltt, q_ltf, q_eqt, q_eqf, q_add, q_mul, Nat.reduceAdd, Nat.reduceLeDiff, Nat.reduceEqDiff, eq_self, Nat.zero_le, Nat.le_refl, not_false_eq_true, not_true_eq_false, true_and, and_true, and_self, if_true, if_false, p1.o, cl91 h91, c1]
    exact hQ
  have c1 : (nI k < nI 0) = False := q_ltf (by omega) hk
  simp only [c1, if_false] at hQ
  by_cases c2 : n ≤ k
  · have c3 : (nI n ≤ nI k) = True := q_let c2 hk
    simp only [hN, c3, if_true] at hQ
    simp (disch := first | assumption | omega) only [e92_0, e92_1, e92_2, e92_5, e92_8, e92_9, e92_10, e92_11, e92_14, e92_15, e92_18, e92_19, e92_20, e92_23, e92_24, e92_25, e92_28, e92_29, e92_30, e92_31, e92_34, e92_35, e92_37, e92_38, q_gv0, q_gvs, q_isI1, q_isA1, q_hs0, q_hsn, q_hsi, q_hsr, q_hss, q_inc1, List.set_cons_zero, List.set_cons_succ, ↓reduceIte, q_ss0, q_ssi, q_ssr, q_nr0, q_nr10, q_nr11, q_tlS, q_tlN, q_cl, q_let, q_lef, q_ltt, q_ltf, q_eqt, q_eqf, q_add, q_mul, Nat.reduceAdd, Nat.reduceLeDiff, Nat.reduceEqDiff, eq_self, Nat.zero_le, Nat.le_refl, not_false_eq_true, not_true_eq_false, true_and, and_true, and_self, if_true, if_false, p1.o, cl91 h91, c1, hN, c3]
    exact hQ
  have c3 : (nI n ≤ nI k) = False := q_lef (by omega) (by omega)
  simp only [hN, c3, if_false, q_cl hk] at hQ
  have k6 : k < 6 := by omega
  have e19 : rmM M 19 = M 19 := rmM_out (by omega) (by omega)
  simp (disch := first | assumption | omega) only [e92_0, e92_1, e92_2, e92_5, e92_8, e92_9, e92_10, e92_11, e92_14, e92_15, e92_18, e92_19, e92_20, e92_23, e92_24, e92_25, e92_28, e92_29, e92_30, e92_31, e92_34, e92_35, e92_37, e92_38, q_gv0, q_gvs, q_isI1, q_isA1, q_hs0, q_hsn, q_hsi, q_hsr, q_hss, q_inc1, List.set_cons_zero, List.set_cons_succ, ↓reduceIte, q_ss0, q_ssi, q_ssr, q_nr0, q_nr10, q_nr11, q_tlS, q_tlN, q_cl, q_let, q_lef, q_ltt, q_ltf, q_eqt, q_eqf, q_add, q_mul, Nat.reduceAdd, Nat.reduceLeDiff, Nat.reduceEqDiff, eq_self, Nat.zero_le, Nat.le_refl, not_false_eq_true, not_true_eq_false, true_and, and_true, and_self, if_true, if_false, p1.o, p1.g3, hc.o, cl91 h91, cl53 h53, cl61 h61, cl44 h44, c1, hN, c3, e19]
  exact hQ
def sp104 : mv_Sp := fun As sh M Q => ∃ (x : Int32), As = [.ref 0, .int x] ∧ ((oX sh) ∧ (∃ n, n ≤ 6 ∧ M 3 0 = nI n) ∧ (∃ e, e < 8 ∧ M 0 6 &&& nI 7 = nI e) ∧ (∃ n, n < 9 ∧ M 0 7 = nI n) ∧ (∃ r, r < 25 ∧ M 18 2 = nI r)) ∧ Q (some (.int (if x < nI 0 then Int32.ofInt (-1) else if M 3 0 ≤ x then Int32.ofInt (-1) else nI 1 - M 19 (x.toNatClampNeg * 5 + 3)))) (sh) (if x < nI 0 then M else if M 3 0 ≤ x then M else mv_up (rmM M) 19 (x.toNatClampNeg * 5 + 3) (nI 1 - M 19 (x.toNatClampNeg * 5 + 3)))
theorem cl104 {S : Nat → mv_Sp} (hS : S 104 = sp104) {sh : mv_Shp} {M : mv_Mem} {x : Int32} (p1 : oX sh) (p2 : ∃ n, n ≤ 6 ∧ M 3 0 = nI n) (p3 : ∃ e, e < 8 ∧ M 0 6 &&& nI 7 = nI e) (p4 : ∃ n, n < 9 ∧ M 0 7 = nI n) (p5 : ∃ r, r < 25 ∧ M 18 2 = nI r) {K : mv_Kt} {pc : Nat} {L : mv_Loc} {st : List Value} {cc_ ss_ : Nat} : mv_kal S 104 [.ref 0, .int x] sh M K pc L st cc_ ss_ = K pc L ((some (.int (if x < nI 0 then Int32.ofInt (-1) else if M 3 0 ≤ x then Int32.ofInt (-1) else nI 1 - M 19 (x.toNatClampNeg * 5 + 3))) : Option Value).toList ++ st) (sh) (if x < nI 0 then M else if M 3 0 ≤ x then M else mv_up (rmM M) 19 (x.toNatClampNeg * 5 + 3) (nI 1 - M 19 (x.toNatClampNeg * 5 + 3))) cc_ ss_ := by
  refine q_kal (fun F => q_cali (fun Q => ?_))
  rw [hS]
  constructor
  · rintro ⟨x', hE, ⟨zp1, zp2, zp3, zp4, zp5⟩, hQ⟩
    simp only [List.cons.injEq, Value.ref.injEq, Value.int.injEq, Value.long.injEq, and_true, true_and] at hE
    subst hE
    exact hQ
  · intro hQ
    exact ⟨x, rfl, ⟨p1, p2, p3, p4, p5⟩, hQ⟩
theorem ct104 {S : Nat → mv_Sp} (h44 : S 44 = sp44) (h53 : S 53 = sp53) (h61 : S 61 = sp61) (h91 : S 91 = sp91) : ∀ As sh M P, sp104 As sh M P → (mv_al0 As).length ≤ 2 ∧ mr104 S P 0 (mv_ent As 2) [] sh M 0 0 := by
  rintro As sh M P ⟨x, rfl, ⟨p1, p2, p3, p4, p5⟩, hQ⟩
  refine ⟨Nat.le_of_ble_eq_true rfl, ?_⟩
  show mr104 S P 0 [some (.ref 0), some (.int x)] [] sh M 0 0
  have hc := p1.cloth
  obtain ⟨n, hn, hN⟩ := id p2
  rcases i32_c x with c1 | ⟨k, hk, rfl⟩
  · simp only [c1, if_true] at hQ
    simp (disch := first | assumption | omega) only [e104_0, e104_1, e104_2, e104_5, e104_8, e104_9, e104_10, e104_11, e104_14, e104_15, e104_18, e104_19, e104_20, e104_21, e104_22, e104_25, e104_26, e104_27, e104_30, e104_31, e104_34, e104_35, e104_38, e104_39, e104_40, e104_43, q_gv0, q_gvs, q_isI1, q_isA1, q_hs0, q_hsn, q_hsi, q_hsr, q_hss, q_inc1, List.set_cons_zero, List.set_cons_succ, ↓reduceIte, q_ss0, q_ssi, q_ssr, q_nr0, q_nr10, q_nr11, q_tlS, q_tlN, q_cl, q_let, q_lef, q_ltt, q_ltf, q_eqt, q_eqf, q_add, q_mul, Nat.reduceAdd, Nat.reduceLeDiff, Nat.reduceEqDiff, eq_self, Nat.zero_le, Nat.le_refl, not_false_eq_true, not_true_eq_false, true_and, and_true, and_self, if_true, if_false, p1.o, cl91 h91, c1]
    exact hQ
  have c1 : (nI k < nI 0) = False := q_ltf (by omega) hk
  simp only [c1, if_false] at hQ
  by_cases c2 : n ≤ k
  · have c3 : (nI n ≤ nI k) = True := q_let c2 hk
    simp only [hN, c3, if_true] at hQ
    simp (disch := first | assumption | omega) only [e104_0, e104_1, e104_2, e104_5, e104_8, e104_9, e104_10, e104_11, e104_14, e104_15, e104_18, e104_19, e104_20, e104_21, e104_22, e104_25, e104_26, e104_27, e104_30, e104_31, e104_34, e104_35, e104_38, e104_39, e104_40, e104_43, q_gv0, q_gvs, q_isI1, q_isA1, q_hs0, q_hsn, q_hsi, q_hsr, q_hss, q_inc1, List.set_cons_zero, List.set_cons_succ, ↓reduceIte, q_ss0, q_ssi, q_ssr, q_nr0, q_nr10, q_nr11, q_tlS, q_tlN, q_cl, q_let, q_lef, q_ltt, q_ltf, q_eqt, q_eqf, q_add, q_mul, Nat.reduceAdd, Nat.reduceLeDiff, Nat.reduceEqDiff, eq_self, Nat.zero_le, Nat.le_refl, not_false_eq_true, not_true_eq_false, true_and, and_true, and_self, if_true, if_false, p1.o, cl91 h91, c1, hN, c3]
    exact hQ
  have c3 : (nI n ≤ nI k) = False := q_lef (by omega) (by omega)
  simp only [hN, c3, if_false, q_cl hk] at hQ
  have k6 : k < 6 := by omega
  have e19 : rmM M 19 = M 19 := rmM_out (by omega) (by omega)
  simp (disch := first | assumption | omega) only [e104_0, e104_1, e104_2, e104_5, e104_8, e104_9, e104_10, e104_11, e104_14, e104_15, e104_18, e104_19, e104_20, e104_21, e104_22, e104_25, e104_26, e104_27, e104_30, e104_31, e104_34, e104_35, e104_38, e104_39, e104_40, e104_43, q_gv0, q_gvs, q_isI1, q_isA1, q_hs0, q_hsn, q_hsi, q_hsr, q_hss, q_inc1, List.set_cons_zero, List.set_cons_succ, ↓reduceIte, q_ss0, q_ssi, q_ssr, q_nr0, q_nr10, q_nr11, q_tlS, q_tlN, q_cl, q_let, q_lef, q_ltt, q_ltf, q_eqt, q_eqf, q_add, q_mul, Nat.reduceAdd, Nat.reduceLeDiff, Nat.reduceEqDiff, eq_self, Nat.zero_le, Nat.le_refl, not_false_eq_true, not_true_eq_false, true_and, and_true, and_self, if_true, if_false, p1.o, p1.g3, hc.o, cl91 h91, cl53 h53, cl61 h61, cl44 h44, c1, hN, c3, e19, q_upS]
  exact hQ
