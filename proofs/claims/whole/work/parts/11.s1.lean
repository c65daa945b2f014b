/-! the loom's small methods -/
section S1
variable {S : Nat → mv_Sp} {sh : mv_Shp} {M : mv_Mem} {a t h p q : Nat}
def sp29 : mv_Sp := fun As sh M Q => ∃ a t h, As = [.ref a, .int (nI t), .int (nI h)] ∧ oL sh a ∧ t < 6 ∧ h < 4 ∧ Q (some (.int (M (a + 3) (t * 4 + h)))) sh M
theorem ct29 : ∀ As sh M P, sp29 As sh M P → (mv_al0 As).length ≤ 3 ∧ mr29 S P 0 (mv_ent As 3) [] sh M 0 0 := by
  rintro As sh M P ⟨a, t, h, rfl, hL, ht, hh, hQ⟩
  refine ⟨Nat.le_refl _, ?_⟩
  show mr29 S P 0 [some (.ref a), some (.int (nI t)), some (.int (nI h))] [] sh M 0 0
  simp (disch := omega) only [e29_0, e29_1, e29_4, e29_5, e29_7, e29_10, e29_11, e29_14, e29_15, e29_16, e29_19, e29_20, e29_23, e29_24, e29_25, e29_26, e29_27, e29_28, e29_29, e29_32, e29_33, q_ldI0, q_ldIs, q_ldA0, q_ldAs, q_stA0, q_stAn, q_stAi, q_stAr, q_stAs, q_pI, q_pA, q_pVi, q_pVr, q_pR, q_pQ, q_p0, q_tk0, q_tks, q_ss0, q_ssi, q_ssr, q_nr0, q_nr10, q_nr11, q_pk0, q_tlS, q_tlN, q_hd, q_in, q_cl, q_let, q_lef, q_ltt, q_ltf, q_eqt, q_eqf, q_add, q_mul, q_oi0, q_oi1, q_oi2, q_oi3, q_oi4, q_oi5, q_oi6, q_oi7, q_oi8, q_oi9, q_sw0, q_sws, true_and, and_true, true_implies, false_implies, not_true_eq_false, not_false_eq_true, and_self, hL.g6, hL.n3]
  exact hQ
end S1
