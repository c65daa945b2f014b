/-! lies, ways -/
def sp115 : mv_Sp := fun As sh M Q => As = [.ref 0] ∧ ((oX sh) ∧ (gL M 3) ∧ (sT M 57) ∧ (∃ n, n < 7 ∧ M 0 11 = nI n) ∧ (∀ i, i < (M 0 11).toNatClampNeg → ∃ v, v < 2147483648 ∧ M 56 i = nI v)) ∧ Q (some (.int (smX (csM M 57 3 56 (M 0 11).toNatClampNeg) 57))) (sh) (csM M 57 3 56 (M 0 11).toNatClampNeg)
theorem cl115 {S : Nat → mv_Sp} (hS : S 115 = sp115) {sh : mv_Shp} {M : mv_Mem}  (p1 : oX sh) (p2 : gL M 3) (p3 : sT M 57) (p4 : ∃ n, n < 7 ∧ M 0 11 = nI n) (p5 : ∀ i, i < (M 0 11).toNatClampNeg → ∃ v, v < 2147483648 ∧ M 56 i = nI v) {K : mv_Kt} {pc : Nat} {L : mv_Loc} {st : List Value} {cc_ ss_ : Nat} : mv_kal S 115 [.ref 0] sh M K pc L st cc_ ss_ = K pc L ((some (.int (smX (csM M 57 3 56 (M 0 11).toNatClampNeg) 57)) : Option Value).toList ++ st) (sh) (csM M 57 3 56 (M 0 11).toNatClampNeg) cc_ ss_ := by
  refine q_kal (fun F => q_cali (fun Q => ?_))
  rw [hS]
  constructor
  · rintro ⟨hE, ⟨zp1, zp2, zp3, zp4, zp5⟩, hQ⟩
    exact hQ
  · intro hQ
    exact ⟨rfl, ⟨p1, p2, p3, p4, p5⟩, hQ⟩
theorem ct115 {S : Nat → mv_Sp} (h114 : S 114 = sp114) : ∀ As sh M P, sp115 As sh M P → (mv_al0 As).length ≤ 1 ∧ mr115 S P 0 (mv_ent As 1) [] sh M 0 0 := by
  rintro As sh M P ⟨rfl, ⟨p1, p2, p3, p4, p5⟩, hQ⟩
  refine ⟨Nat.le_of_ble_eq_true rfl, ?_⟩
  show mr115 S P 0 [some (.ref 0)] [] sh M 0 0
  obtain ⟨n, hn, hN⟩ := id p4
  have hl := p1.loom
  have hs := p1.sea
  have h56 := p1.seen
  rw [hN, q_cl (show n < 2147483648 by omega)] at hQ p5
  simp (disch := first | assumption | omega) only [e115_0, e115_1, e115_4, e115_5, e115_8, e115_9, e115_12, e115_13, e115_16, e115_19, q_gv0, q_gvs, q_isI1, q_isA1, q_hs0, q_hsn, q_hsi, q_hsr, q_hss, q_inc1, List.set_cons_zero, List.set_cons_succ, ↓reduceIte, q_ss0, q_ssi, q_ssr, q_nr0, q_nr10, q_nr11, q_tlS, q_tlN, q_cl, q_let, q_lef, q_ltt, q_ltf, q_eqt, q_eqf, q_add, q_mul, Nat.reduceAdd, Nat.reduceLeDiff, Nat.reduceEqDiff, eq_self, Nat.zero_le, Nat.le_refl, not_false_eq_true, not_true_eq_false, true_and, and_true, and_self, if_true, if_false, p1.g1, p1.g10, p1.g11, p1.g12, hs.o, hN, cl114 h114]
  exact hQ
def sp136 : mv_Sp := fun As sh M Q => As = [.ref 0] ∧ ((oX sh) ∧ (gL M 3) ∧ (sT M 57) ∧ (∃ n, n < 7 ∧ M 0 11 = nI n) ∧ (∀ i, i < (M 0 11).toNatClampNeg → ∃ v, v < 2147483648 ∧ M 56 i = nI v) ∧ (∃ k, k < 4096 ∧ tpX M 18 = nI k)) ∧ Q (some (.int (smX (wyM M 57 3 (tpX M 18).toNatClampNeg 56 (M 0 11).toNatClampNeg) 57))) (sh) (wyM M 57 3 (tpX M 18).toNatClampNeg 56 (M 0 11).toNatClampNeg)
theorem cl136 {S : Nat → mv_Sp} (hS : S 136 = sp136) {sh : mv_Shp} {M : mv_Mem}  (p1 : oX sh) (p2 : gL M 3) (p3 : sT M 57) (p4 : ∃ n, n < 7 ∧ M 0 11 = nI n) (p5 : ∀ i, i < (M 0 11).toNatClampNeg → ∃ v, v < 2147483648 ∧ M 56 i = nI v) (p6 : ∃ k, k < 4096 ∧ tpX M 18 = nI k) {K : mv_Kt} {pc : Nat} {L : mv_Loc} {st : List Value} {cc_ ss_ : Nat} : mv_kal S 136 [.ref 0] sh M K pc L st cc_ ss_ = K pc L ((some (.int (smX (wyM M 57 3 (tpX M 18).toNatClampNeg 56 (M 0 11).toNatClampNeg) 57)) : Option Value).toList ++ st) (sh) (wyM M 57 3 (tpX M 18).toNatClampNeg 56 (M 0 11).toNatClampNeg) cc_ ss_ := by
  refine q_kal (fun F => q_cali (fun Q => ?_))
  rw [hS]
  constructor
  · rintro ⟨hE, ⟨zp1, zp2, zp3, zp4, zp5, zp6⟩, hQ⟩
    exact hQ
  · intro hQ
    exact ⟨rfl, ⟨p1, p2, p3, p4, p5, p6⟩, hQ⟩
theorem ct136 {S : Nat → mv_Sp} (h66 : S 66 = sp66) (h135 : S 135 = sp135) : ∀ As sh M P, sp136 As sh M P → (mv_al0 As).length ≤ 1 ∧ mr136 S P 0 (mv_ent As 1) [] sh M 0 0 := by
  rintro As sh M P ⟨rfl, ⟨p1, p2, p3, p4, p5, p6⟩, hQ⟩
  refine ⟨Nat.le_of_ble_eq_true rfl, ?_⟩
  show mr136 S P 0 [some (.ref 0)] [] sh M 0 0
  obtain ⟨n, hn, hN⟩ := id p4
  obtain ⟨k, hk, hK⟩ := id p6
  have hl := p1.loom
  have hs := p1.sea
  have hc := p1.cloth
  have h56 := p1.seen
  rw [hN, q_cl (show n < 2147483648 by omega)] at hQ p5
  rw [hK, q_cl (show k < 2147483648 by omega)] at hQ
  simp (disch := first | assumption | omega) only [e136_0, e136_1, e136_4, e136_5, e136_8, e136_9, e136_12, e136_15, e136_16, e136_19, e136_20, e136_23, e136_26, q_gv0, q_gvs, q_isI1, q_isA1, q_hs0, q_hsn, q_hsi, q_hsr, q_hss, q_inc1, List.set_cons_zero, List.set_cons_succ, ↓reduceIte, q_ss0, q_ssi, q_ssr, q_nr0, q_nr10, q_nr11, q_tlS, q_tlN, q_cl, q_let, q_lef, q_ltt, q_ltf, q_eqt, q_eqf, q_add, q_mul, Nat.reduceAdd, Nat.reduceLeDiff, Nat.reduceEqDiff, eq_self, Nat.zero_le, Nat.le_refl, not_false_eq_true, not_true_eq_false, true_and, and_true, and_self, if_true, if_false, p1.g1, p1.g3, p1.g10, p1.g11, p1.g12, hs.o, hc.o, hN, hK, cr66 h66, cl135 h135]
  exact hQ
