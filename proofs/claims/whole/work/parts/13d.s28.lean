/-! undone -/
def udE (e : Nat) : Nat := if e = 0 then 7 else e - 1
theorem udE_lt {e : Nat} (h : e < 8) : udE e < 8 := by
  unfold udE
  split <;> omega
theorem rg_dn {x : Int32} {e : Nat} (h : x &&& nI 7 = nI e) (he : e < 8) : (x - nI 1) &&& nI 7 = nI (udE e) := by
  rw [and_m7, m7_dn, m7_of h he]
  congr 1
  unfold udE
  split <;> omega
def udM (M : mv_Mem) : mv_Mem := cpM (mv_up (mv_up M 0 6 (M 0 6 - nI 1)) 0 7 (nI ((M 0 7).toNatClampNeg - 1))) 18 (25 + 3 * udE (M 0 6 &&& nI 7).toNatClampNeg)
def sp131 : mv_Sp := fun As sh M Q => As = [.ref 0] ∧ ((oX sh) ∧ (∃ e, e < 8 ∧ M 0 6 &&& nI 7 = nI e) ∧ (∃ n, n < 9 ∧ M 0 7 = nI n) ∧ (∀ i, i < 8 → ∃ r, r < 25 ∧ M (25 + 3 * i) 2 = nI r)) ∧ Q (some (.int (if M 0 7 = nI 0 then Int32.ofInt (-2) else nI ((M 0 7).toNatClampNeg - 1)))) (sh) (if M 0 7 = nI 0 then M else udM M)
theorem cl131 {S : Nat → mv_Sp} (hS : S 131 = sp131) {sh : mv_Shp} {M : mv_Mem}  (p1 : oX sh) (p2 : ∃ e, e < 8 ∧ M 0 6 &&& nI 7 = nI e) (p3 : ∃ n, n < 9 ∧ M 0 7 = nI n) (p4 : ∀ i, i < 8 → ∃ r, r < 25 ∧ M (25 + 3 * i) 2 = nI r) {K : mv_Kt} {pc : Nat} {L : mv_Loc} {st : List Value} {cc_ ss_ : Nat} : mv_kal S 131 [.ref 0] sh M K pc L st cc_ ss_ = K pc L ((some (.int (if M 0 7 = nI 0 then Int32.ofInt (-2) else nI ((M 0 7).toNatClampNeg - 1))) : Option Value).toList ++ st) (sh) (if M 0 7 = nI 0 then M else udM M) cc_ ss_ := by
  refine q_kal (fun F => q_cali (fun Q => ?_))
  rw [hS]
  constructor
  · rintro ⟨hE, ⟨zp1, zp2, zp3, zp4⟩, hQ⟩
    exact hQ
  · intro hQ
    exact ⟨rfl, ⟨p1, p2, p3, p4⟩, hQ⟩
theorem ct131 {S : Nat → mv_Sp} (h52 : S 52 = sp52) : ∀ As sh M P, sp131 As sh M P → (mv_al0 As).length ≤ 1 ∧ mr131 S P 0 (mv_ent As 1) [] sh M 0 0 := by
  rintro As sh M P ⟨rfl, ⟨p1, p2, p3, p4⟩, hQ⟩
  refine ⟨Nat.le_of_ble_eq_true rfl, ?_⟩
  show mr131 S P 0 [some (.ref 0)] [] sh M 0 0
  obtain ⟨e, he, hE⟩ := id p2
  obtain ⟨n, hn, hN⟩ := id p3
  have hc := p1.cloth
  by_cases c1 : n = 0
  · subst c1
    rw [if_pos hN, if_pos hN] at hQ
    simp (disch := first | assumption | omega) only [e131_0, e131_1, e131_4, e131_7, e131_9, e131_10, e131_11, e131_11r, e131_12, e131_15, e131_16, e131_17, e131_20, e131_21, e131_21r, e131_22, e131_25, e131_26, e131_27, e131_30, e131_31, e131_34, e131_35, e131_38, e131_39, e131_42, e131_44, e131_45, e131_46, e131_49, e131_50, e131_53, q_gv0, q_gvs, q_isI1, q_isA1, q_hs0, q_hsn, q_hsi, q_hsr, q_hss, q_inc1, List.set_cons_zero, List.set_cons_succ, ↓reduceIte, q_ss0, q_ssi, q_ssr, q_nr0, q_nr10, q_nr11, q_tlS, q_tlN, q_cl, q_let, q_lef, q_ltt, q_ltf, q_eqt, q_eqf, q_add, q_mul, Nat.reduceAdd, Nat.reduceLeDiff, Nat.reduceEqDiff, eq_self, Nat.zero_le, Nat.le_refl, not_false_eq_true, not_true_eq_false, true_and, and_true, and_self, if_true, if_false, p1.g7, hN]
    exact hQ
  have c2 : ¬ M 0 7 = nI 0 := fun z => c1 ((nI_eq (by omega) (by omega)).mp (hN.symm.trans z))
  unfold udM at hQ
  rw [if_neg c2, if_neg c2, hE, hN, q_cl (show e < 2147483648 by omega), q_cl (show n < 2147483648 by omega)] at hQ
  have hu := udE_lt he
  have hD := rg_dn hE he
  have p5 : ∃ r, r < 25 ∧ mv_up (mv_up M 0 6 (M 0 6 - nI 1)) 0 7 (nI (n - 1)) (25 + 3 * udE e) 2 = nI r := by
    rw [q_upO (by omega), q_upO (by omega)]
    exact p4 (udE e) hu
  have ho := p1.und hu
  have ec : ∀ {N : mv_Mem}, cpM N 18 (25 + 3 * udE e) 0 = N 0 := cpM_out (by omega) (by omega) (by omega)
  have n1 : 1 ≤ n := by omega
  simp (disch := first | assumption | omega) only [e131_0, e131_1, e131_4, e131_7, e131_9, e131_10, e131_11, e131_11r, e131_12, e131_15, e131_16, e131_17, e131_20, e131_21, e131_21r, e131_22, e131_25, e131_26, e131_27, e131_30, e131_31, e131_34, e131_35, e131_38, e131_39, e131_42, e131_44, e131_45, e131_46, e131_49, e131_50, e131_53, q_gv0, q_gvs, q_isI1, q_isA1, q_hs0, q_hsn, q_hsi, q_hsr, q_hss, q_inc1, List.set_cons_zero, List.set_cons_succ, ↓reduceIte, q_ss0, q_ssi, q_ssr, q_nr0, q_nr10, q_nr11, q_tlS, q_tlN, q_cl, q_let, q_lef, q_ltt, q_ltf, q_eqt, q_eqf, q_add, q_mul, Nat.reduceAdd, Nat.reduceLeDiff, Nat.reduceEqDiff, eq_self, Nat.zero_le, Nat.le_refl, not_false_eq_true, not_true_eq_false, true_and, and_true, and_self, if_true, if_false, p1.g3, p1.g5, p1.g6, p1.g7, p1.p6, p1.p7, p1.u, hc.o, hD, hN, c1, q_sub, q_upS, q_upN, ec, cl52 h52]
  exact hQ
