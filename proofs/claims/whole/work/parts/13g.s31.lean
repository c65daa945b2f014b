/-! the trial combed; a common divisor -/
def cmM (M : mv_Mem) (d : Nat) : mv_Mem := if M 3 0 = nI 0 then M else mv_up M 22 ((d / 8 % (M 3 0).toNatClampNeg) * 5 + 1) (nI 0)
def sp78 : mv_Sp := fun As sh M Q => ∃ (d : Nat), As = [.ref 0, .int (nI d)] ∧ ((oX sh) ∧ (∃ n, n ≤ 6 ∧ M 3 0 = nI n) ∧ (d < 2147483648)) ∧ Q (none) (sh) (cmM M d)
theorem cl78 {S : Nat → mv_Sp} (hS : S 78 = sp78) {sh : mv_Shp} {M : mv_Mem} {d : Nat} (p1 : oX sh) (p2 : ∃ n, n ≤ 6 ∧ M 3 0 = nI n) (p3 : d < 2147483648) {K : mv_Kt} {pc : Nat} {L : mv_Loc} {st : List Value} {cc_ ss_ : Nat} : mv_kal S 78 [.ref 0, .int (nI d)] sh M K pc L st cc_ ss_ = K pc L ((none : Option Value).toList ++ st) (sh) (cmM M d) cc_ ss_ := by
  refine q_kal (fun F => q_cali (fun Q => ?_))
  rw [hS]
  constructor
  · rintro ⟨d', hE, ⟨zp1, zp2, zp3⟩, hQ⟩
    simp only [List.cons.injEq, Value.ref.injEq, Value.int.injEq, Value.long.injEq, and_true, true_and] at hE
    have e_d := hE
    have z_d := nI_inj e_d (by omega) (by omega)
    subst z_d
    exact hQ
  · intro hQ
    exact ⟨d, rfl, ⟨p1, p2, p3⟩, hQ⟩
theorem ct78 {S : Nat → mv_Sp} (h44 : S 44 = sp44) : ∀ As sh M P, sp78 As sh M P → (mv_al0 As).length ≤ 2 ∧ mr78 S P 0 (mv_ent As 2) [] sh M 0 0 := by
  rintro As sh M P ⟨d, rfl, ⟨p1, p2, p3⟩, hQ⟩
  refine ⟨Nat.le_of_ble_eq_true rfl, ?_⟩
  show mr78 S P 0 [some (.ref 0), some (.int (nI d))] [] sh M 0 0
  obtain ⟨n, hn, hN⟩ := id p2
  have hl := p1.loom
  have hc := p1.trial
  unfold cmM at hQ
  by_cases c1 : n = 0
  · subst c1
    rw [if_pos hN] at hQ
    simp (disch := first | assumption | omega) only [e78_0, e78_1, e78_4, e78_7, e78_10, e78_11, e78_14, e78_15, e78_17, e78_18, e78_19, e78_22, e78_25, e78_26, e78_27, e78_28, e78_31, q_gv0, q_gvs, q_isI1, q_isA1, q_hs0, q_hsn, q_hsi, q_hsr, q_hss, q_inc1, List.set_cons_zero, List.set_cons_succ, ↓reduceIte, q_ss0, q_ssi, q_ssr, q_nr0, q_nr10, q_nr11, q_tlS, q_tlN, q_cl, q_let, q_lef, q_ltt, q_ltf, q_eqt, q_eqf, q_add, q_mul, Nat.reduceAdd, Nat.reduceLeDiff, Nat.reduceEqDiff, eq_self, Nat.zero_le, Nat.le_refl, not_false_eq_true, not_true_eq_false, true_and, and_true, and_self, if_true, if_false, p1.g1, hl.g0, hN]
    exact hQ
  have c2 : ¬ M 3 0 = nI 0 := fun z => c1 ((nI_eq (by omega) (by omega)).mp (hN.symm.trans z))
  rw [if_neg c2, hN, q_cl (show n < 2147483648 by omega)] at hQ
  have d0 : d / 8 < 2147483648 := by omega
  have n0 : 0 < n := by omega
  have m1 : d / 8 % n < n := Nat.mod_lt _ n0
  have m6 : d / 8 % n < 6 := by omega
  simp (disch := first | assumption | omega) only [e78_0, e78_1, e78_4, e78_7, e78_10, e78_11, e78_14, e78_15, e78_17, e78_18, e78_19, e78_22, e78_25, e78_26, e78_27, e78_28, e78_31, q_gv0, q_gvs, q_isI1, q_isA1, q_hs0, q_hsn, q_hsi, q_hsr, q_hss, q_inc1, List.set_cons_zero, List.set_cons_succ, ↓reduceIte, q_ss0, q_ssi, q_ssr, q_nr0, q_nr10, q_nr11, q_tlS, q_tlN, q_cl, q_let, q_lef, q_ltt, q_ltf, q_eqt, q_eqf, q_add, q_mul, Nat.reduceAdd, Nat.reduceLeDiff, Nat.reduceEqDiff, eq_self, Nat.zero_le, Nat.le_refl, not_false_eq_true, not_true_eq_false, true_and, and_true, and_self, if_true, if_false, p1.g1, p1.g4, hl.g0, hc.o, hN, q_div, q_rem, cl44 h44]
  exact hQ
