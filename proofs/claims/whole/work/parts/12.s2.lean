/-! the loom's rest, the cloth's small methods -/
def sp43 : mv_Sp := fun As sh M Q => ∃ (a : Nat) (t : Nat), As = [.ref a, .int (nI t)] ∧ ((oL sh a) ∧ (t < 6)) ∧ Q (some (.int (M (a + 2) t))) (sh) (M)
theorem cl43 {S : Nat → mv_Sp} (hS : S 43 = sp43) {sh : mv_Shp} {M : mv_Mem} {a : Nat} {t : Nat} (p1 : oL sh a) (p2 : t < 6) {K : mv_Kt} {pc : Nat} {L : mv_Loc} {st : List Value} {cc_ ss_ : Nat} : mv_kal S 43 [.ref a, .int (nI t)] sh M K pc L st cc_ ss_ = K pc L ((some (.int (M (a + 2) t)) : Option Value).toList ++ st) (sh) (M) cc_ ss_ := by
  refine q_kal (fun F => q_cali (fun Q => ?_))
  rw [hS]
  constructor
  · rintro ⟨a', t', hE, ⟨zp1, zp2⟩, hQ⟩
    simp only [List.cons.injEq, Value.ref.injEq, Value.int.injEq, Value.long.injEq, and_true, true_and] at hE
    obtain ⟨rfl, e_t⟩ := hE
    have z_t := nI_inj e_t (by omega) (by omega)
    subst z_t
    exact hQ
  · intro hQ
    exact ⟨a, t, rfl, ⟨p1, p2⟩, hQ⟩
theorem ct43 {S : Nat → mv_Sp}  : ∀ As sh M P, sp43 As sh M P → (mv_al0 As).length ≤ 2 ∧ mr43 S P 0 (mv_ent As 2) [] sh M 0 0 := by
  rintro As sh M P ⟨a, t, rfl, ⟨p1, p2⟩, hQ⟩
  refine ⟨Nat.le_of_ble_eq_true rfl, ?_⟩
  show mr43 S P 0 [some (.ref a), some (.int (nI t))] [] sh M 0 0
  simp (disch := first | assumption | omega) only [e43_0, e43_1, e43_4, e43_5, e43_7, e43_10, e43_11, e43_14, e43_15, e43_16, e43_19, e43_20, q_gv0, q_gvs, q_isI1, q_isA1, q_hs0, q_hsn, q_hsi, q_hsr, q_hss, q_inc1, List.set_cons_zero, List.set_cons_succ, ↓reduceIte, q_ss0, q_ssi, q_ssr, q_nr0, q_nr10, q_nr11, q_tlS, q_tlN, q_cl, q_let, q_lef, q_ltt, q_ltf, q_eqt, q_eqf, q_add, q_mul, Nat.reduceAdd, Nat.reduceLeDiff, Nat.reduceEqDiff, eq_self, Nat.zero_le, Nat.le_refl, not_false_eq_true, not_true_eq_false, true_and, and_true, and_self, if_true, if_false, p1.g5, p1.l2]
  exact hQ
def sp54 : mv_Sp := fun As sh M Q => ∃ (a : Nat) (k : Nat), As = [.ref a, .int (nI k)] ∧ ((oL sh a) ∧ (k < 8)) ∧ Q (some (.int (M (a + 6) k))) (sh) (M)
theorem cl54 {S : Nat → mv_Sp} (hS : S 54 = sp54) {sh : mv_Shp} {M : mv_Mem} {a : Nat} {k : Nat} (p1 : oL sh a) (p2 : k < 8) {K : mv_Kt} {pc : Nat} {L : mv_Loc} {st : List Value} {cc_ ss_ : Nat} : mv_kal S 54 [.ref a, .int (nI k)] sh M K pc L st cc_ ss_ = K pc L ((some (.int (M (a + 6) k)) : Option Value).toList ++ st) (sh) (M) cc_ ss_ := by
  refine q_kal (fun F => q_cali (fun Q => ?_))
  rw [hS]
  constructor
  · rintro ⟨a', k', hE, ⟨zp1, zp2⟩, hQ⟩
    simp only [List.cons.injEq, Value.ref.injEq, Value.int.injEq, Value.long.injEq, and_true, true_and] at hE
    obtain ⟨rfl, e_k⟩ := hE
    have z_k := nI_inj e_k (by omega) (by omega)
    subst z_k
    exact hQ
  · intro hQ
    exact ⟨a, k, rfl, ⟨p1, p2⟩, hQ⟩
theorem ct54 {S : Nat → mv_Sp}  : ∀ As sh M P, sp54 As sh M P → (mv_al0 As).length ≤ 2 ∧ mr54 S P 0 (mv_ent As 2) [] sh M 0 0 := by
  rintro As sh M P ⟨a, k, rfl, ⟨p1, p2⟩, hQ⟩
  refine ⟨Nat.le_of_ble_eq_true rfl, ?_⟩
  show mr54 S P 0 [some (.ref a), some (.int (nI k))] [] sh M 0 0
  simp (disch := first | assumption | omega) only [e54_0, e54_1, e54_4, e54_5, e54_7, e54_10, e54_11, e54_14, e54_15, e54_16, e54_19, e54_20, q_gv0, q_gvs, q_isI1, q_isA1, q_hs0, q_hsn, q_hsi, q_hsr, q_hss, q_inc1, List.set_cons_zero, List.set_cons_succ, ↓reduceIte, q_ss0, q_ssi, q_ssr, q_nr0, q_nr10, q_nr11, q_tlS, q_tlN, q_cl, q_let, q_lef, q_ltt, q_ltf, q_eqt, q_eqf, q_add, q_mul, Nat.reduceAdd, Nat.reduceLeDiff, Nat.reduceEqDiff, eq_self, Nat.zero_le, Nat.le_refl, not_false_eq_true, not_true_eq_false, true_and, and_true, and_self, if_true, if_false, p1.g9, p1.l6]
  exact hQ
def sp55 : mv_Sp := fun As sh M Q => ∃ (a : Nat) (k : Nat), As = [.ref a, .int (nI k)] ∧ ((oL sh a) ∧ (k < 8) ∧ (∃ v, v < 60 ∧ M (a + 6) k = nI v)) ∧ Q (some (.int (nI ((M (a + 6) k).toNatClampNeg / 10)))) (sh) (M)
theorem cl55 {S : Nat → mv_Sp} (hS : S 55 = sp55) {sh : mv_Shp} {M : mv_Mem} {a : Nat} {k : Nat} (p1 : oL sh a) (p2 : k < 8) (p3 : ∃ v, v < 60 ∧ M (a + 6) k = nI v) {K : mv_Kt} {pc : Nat} {L : mv_Loc} {st : List Value} {cc_ ss_ : Nat} : mv_kal S 55 [.ref a, .int (nI k)] sh M K pc L st cc_ ss_ = K pc L ((some (.int (nI ((M (a + 6) k).toNatClampNeg / 10))) : Option Value).toList ++ st) (sh) (M) cc_ ss_ := by
  refine q_kal (fun F => q_cali (fun Q => ?_))
  rw [hS]
  constructor
  · rintro ⟨a', k', hE, ⟨zp1, zp2, zp3⟩, hQ⟩
    simp only [List.cons.injEq, Value.ref.injEq, Value.int.injEq, Value.long.injEq, and_true, true_and] at hE
    obtain ⟨rfl, e_k⟩ := hE
    have z_k := nI_inj e_k (by omega) (by omega)
    subst z_k
    exact hQ
  · intro hQ
    exact ⟨a, k, rfl, ⟨p1, p2, p3⟩, hQ⟩
theorem ct55 {S : Nat → mv_Sp} (h54 : S 54 = sp54) : ∀ As sh M P, sp55 As sh M P → (mv_al0 As).length ≤ 2 ∧ mr55 S P 0 (mv_ent As 2) [] sh M 0 0 := by
  rintro As sh M P ⟨a, k, rfl, ⟨p1, p2, p3⟩, hQ⟩
  refine ⟨Nat.le_of_ble_eq_true rfl, ?_⟩
  show mr55 S P 0 [some (.ref a), some (.int (nI k))] [] sh M 0 0
  obtain ⟨v, hv, hk⟩ := p3
  rw [hk, q_cl (by omega)] at hQ
  simp (disch := first | assumption | omega) only [e55_0, e55_1, e55_2, e55_5, e55_7, e55_8, q_gv0, q_gvs, q_isI1, q_isA1, q_hs0, q_hsn, q_hsi, q_hsr, q_hss, q_inc1, List.set_cons_zero, List.set_cons_succ, ↓reduceIte, q_ss0, q_ssi, q_ssr, q_nr0, q_nr10, q_nr11, q_tlS, q_tlN, q_cl, q_let, q_lef, q_ltt, q_ltf, q_eqt, q_eqf, q_add, q_mul, Nat.reduceAdd, Nat.reduceLeDiff, Nat.reduceEqDiff, eq_self, Nat.zero_le, Nat.le_refl, not_false_eq_true, not_true_eq_false, true_and, and_true, and_self, if_true, if_false, cl54 h54, p1.o, hk, q_div, q_rem]
  exact hQ
def sp56 : mv_Sp := fun As sh M Q => ∃ (a : Nat) (k : Nat), As = [.ref a, .int (nI k)] ∧ ((oL sh a) ∧ (k < 8) ∧ (∃ v, v < 60 ∧ M (a + 6) k = nI v)) ∧ Q (some (.int (nI ((M (a + 6) k).toNatClampNeg % 10)))) (sh) (M)
theorem cl56 {S : Nat → mv_Sp} (hS : S 56 = sp56) {sh : mv_Shp} {M : mv_Mem} {a : Nat} {k : Nat} (p1 : oL sh a) (p2 : k < 8) (p3 : ∃ v, v < 60 ∧ M (a + 6) k = nI v) {K : mv_Kt} {pc : Nat} {L : mv_Loc} {st : List Value} {cc_ ss_ : Nat} : mv_kal S 56 [.ref a, .int (nI k)] sh M K pc L st cc_ ss_ = K pc L ((some (.int (nI ((M (a + 6) k).toNatClampNeg % 10))) : Option Value).toList ++ st) (sh) (M) cc_ ss_ := by
  refine q_kal (fun F => q_cali (fun Q => ?_))
  rw [hS]
  constructor
  · rintro ⟨a', k', hE, ⟨zp1, zp2, zp3⟩, hQ⟩
    simp only [List.cons.injEq, Value.ref.injEq, Value.int.injEq, Value.long.injEq, and_true, true_and] at hE
    obtain ⟨rfl, e_k⟩ := hE
    have z_k := nI_inj e_k (by omega) (by omega)
    subst z_k
    exact hQ
  · intro hQ
    exact ⟨a, k, rfl, ⟨p1, p2, p3⟩, hQ⟩
theorem ct56 {S : Nat → mv_Sp} (h54 : S 54 = sp54) : ∀ As sh M P, sp56 As sh M P → (mv_al0 As).length ≤ 2 ∧ mr56 S P 0 (mv_ent As 2) [] sh M 0 0 := by
  rintro As sh M P ⟨a, k, rfl, ⟨p1, p2, p3⟩, hQ⟩
  refine ⟨Nat.le_of_ble_eq_true rfl, ?_⟩
  show mr56 S P 0 [some (.ref a), some (.int (nI k))] [] sh M 0 0
  obtain ⟨v, hv, hk⟩ := p3
  rw [hk, q_cl (by omega)] at hQ
  simp (disch := first | assumption | omega) only [e56_0, e56_1, e56_2, e56_5, e56_7, e56_8, q_gv0, q_gvs, q_isI1, q_isA1, q_hs0, q_hsn, q_hsi, q_hsr, q_hss, q_inc1, List.set_cons_zero, List.set_cons_succ, ↓reduceIte, q_ss0, q_ssi, q_ssr, q_nr0, q_nr10, q_nr11, q_tlS, q_tlN, q_cl, q_let, q_lef, q_ltt, q_ltf, q_eqt, q_eqf, q_add, q_mul, Nat.reduceAdd, Nat.reduceLeDiff, Nat.reduceEqDiff, eq_self, Nat.zero_le, Nat.le_refl, not_false_eq_true, not_true_eq_false, true_and, and_true, and_self, if_true, if_false, cl54 h54, p1.o, hk, q_div, q_rem]
  exact hQ
def sp61 : mv_Sp := fun As sh M Q => ∃ (a : Nat) (t : Nat) (f : Nat), As = [.ref a, .int (nI t), .int (nI f)] ∧ ((oC sh a) ∧ (t < 6) ∧ (f < 5)) ∧ Q (some (.int (M (a + 1) (t * 5 + f)))) (sh) (M)
theorem cl61 {S : Nat → mv_Sp} (hS : S 61 = sp61) {sh : mv_Shp} {M : mv_Mem} {a : Nat} {t : Nat} {f : Nat} (p1 : oC sh a) (p2 : t < 6) (p3 : f < 5) {K : mv_Kt} {pc : Nat} {L : mv_Loc} {st : List Value} {cc_ ss_ : Nat} : mv_kal S 61 [.ref a, .int (nI t), .int (nI f)] sh M K pc L st cc_ ss_ = K pc L ((some (.int (M (a + 1) (t * 5 + f))) : Option Value).toList ++ st) (sh) (M) cc_ ss_ := by
  refine q_kal (fun F => q_cali (fun Q => ?_))
  rw [hS]
  constructor
  · rintro ⟨a', t', f', hE, ⟨zp1, zp2, zp3⟩, hQ⟩
    simp only [List.cons.injEq, Value.ref.injEq, Value.int.injEq, Value.long.injEq, and_true, true_and] at hE
    obtain ⟨rfl, e_t, e_f⟩ := hE
    have z_t := nI_inj e_t (by omega) (by omega)
    subst z_t
    have z_f := nI_inj e_f (by omega) (by omega)
    subst z_f
    exact hQ
  · intro hQ
    exact ⟨a, t, f, rfl, ⟨p1, p2, p3⟩, hQ⟩
theorem ct61 {S : Nat → mv_Sp}  : ∀ As sh M P, sp61 As sh M P → (mv_al0 As).length ≤ 3 ∧ mr61 S P 0 (mv_ent As 3) [] sh M 0 0 := by
  rintro As sh M P ⟨a, t, f, rfl, ⟨p1, p2, p3⟩, hQ⟩
  refine ⟨Nat.le_of_ble_eq_true rfl, ?_⟩
  show mr61 S P 0 [some (.ref a), some (.int (nI t)), some (.int (nI f))] [] sh M 0 0
  simp (disch := first | assumption | omega) only [e61_0, e61_1, e61_4, e61_5, e61_7, e61_10, e61_11, e61_14, e61_15, e61_16, e61_19, e61_20, e61_23, e61_24, e61_25, e61_26, e61_27, e61_28, e61_29, e61_32, e61_33, q_gv0, q_gvs, q_isI1, q_isA1, q_hs0, q_hsn, q_hsi, q_hsr, q_hss, q_inc1, List.set_cons_zero, List.set_cons_succ, ↓reduceIte, q_ss0, q_ssi, q_ssr, q_nr0, q_nr10, q_nr11, q_tlS, q_tlN, q_cl, q_let, q_lef, q_ltt, q_ltf, q_eqt, q_eqf, q_add, q_mul, Nat.reduceAdd, Nat.reduceLeDiff, Nat.reduceEqDiff, eq_self, Nat.zero_le, Nat.le_refl, not_false_eq_true, not_true_eq_false, true_and, and_true, and_self, if_true, if_false, p1.g0, p1.l1]
  exact hQ
def sp44 : mv_Sp := fun As sh M Q => ∃ (a : Nat) (t : Nat) (f : Nat) (v : Int32), As = [.ref a, .int (nI t), .int (nI f), .int v] ∧ ((oC sh a) ∧ (t < 6) ∧ (f < 5)) ∧ Q (none) (sh) (mv_up M (a + 1) (t * 5 + f) v)
theorem cl44 {S : Nat → mv_Sp} (hS : S 44 = sp44) {sh : mv_Shp} {M : mv_Mem} {a : Nat} {t : Nat} {f : Nat} {v : Int32} (p1 : oC sh a) (p2 : t < 6) (p3 : f < 5) {K : mv_Kt} {pc : Nat} {L : mv_Loc} {st : List Value} {cc_ ss_ : Nat} : mv_kal S 44 [.ref a, .int (nI t), .int (nI f), .int v] sh M K pc L st cc_ ss_ = K pc L ((none : Option Value).toList ++ st) (sh) (mv_up M (a + 1) (t * 5 + f) v) cc_ ss_ := by
  refine q_kal (fun F => q_cali (fun Q => ?_))
  rw [hS]
  constructor
  · rintro ⟨a', t', f', v', hE, ⟨zp1, zp2, zp3⟩, hQ⟩
    simp only [List.cons.injEq, Value.ref.injEq, Value.int.injEq, Value.long.injEq, and_true, true_and] at hE
    obtain ⟨rfl, e_t, e_f, rfl⟩ := hE
    have z_t := nI_inj e_t (by omega) (by omega)
    subst z_t
    have z_f := nI_inj e_f (by omega) (by omega)
    subst z_f
    exact hQ
  · intro hQ
    exact ⟨a, t, f, v, rfl, ⟨p1, p2, p3⟩, hQ⟩
theorem ct44 {S : Nat → mv_Sp}  : ∀ As sh M P, sp44 As sh M P → (mv_al0 As).length ≤ 4 ∧ mr44 S P 0 (mv_ent As 4) [] sh M 0 0 := by
  rintro As sh M P ⟨a, t, f, v, rfl, ⟨p1, p2, p3⟩, hQ⟩
  refine ⟨Nat.le_of_ble_eq_true rfl, ?_⟩
  show mr44 S P 0 [some (.ref a), some (.int (nI t)), some (.int (nI f)), some (.int v)] [] sh M 0 0
  simp (disch := first | assumption | omega) only [e44_0, e44_1, e44_4, e44_5, e44_7, e44_10, e44_11, e44_14, e44_15, e44_16, e44_19, e44_20, e44_23, e44_24, e44_25, e44_26, e44_27, e44_28, e44_29, e44_30, q_gv0, q_gvs, q_isI1, q_isA1, q_hs0, q_hsn, q_hsi, q_hsr, q_hss, q_inc1, List.set_cons_zero, List.set_cons_succ, ↓reduceIte, q_ss0, q_ssi, q_ssr, q_nr0, q_nr10, q_nr11, q_tlS, q_tlN, q_cl, q_let, q_lef, q_ltt, q_ltf, q_eqt, q_eqf, q_add, q_mul, Nat.reduceAdd, Nat.reduceLeDiff, Nat.reduceEqDiff, eq_self, Nat.zero_le, Nat.le_refl, not_false_eq_true, not_true_eq_false, true_and, and_true, and_self, if_true, if_false, p1.g0, p1.s1]
  exact hQ
def sp68 : mv_Sp := fun As sh M Q => ∃ (a : Nat) (t : Nat), As = [.ref a, .int (nI t)] ∧ ((oC sh a) ∧ (t < 6)) ∧ Q (some (.int (if M (a + 1) (t * 5 + 4) = nI 1 then nI 1 - M (a + 1) (t * 5 + 3) else M (a + 1) (t * 5 + 3)))) (sh) (M)
theorem cl68 {S : Nat → mv_Sp} (hS : S 68 = sp68) {sh : mv_Shp} {M : mv_Mem} {a : Nat} {t : Nat} (p1 : oC sh a) (p2 : t < 6) {K : mv_Kt} {pc : Nat} {L : mv_Loc} {st : List Value} {cc_ ss_ : Nat} : mv_kal S 68 [.ref a, .int (nI t)] sh M K pc L st cc_ ss_ = K pc L ((some (.int (if M (a + 1) (t * 5 + 4) = nI 1 then nI 1 - M (a + 1) (t * 5 + 3) else M (a + 1) (t * 5 + 3))) : Option Value).toList ++ st) (sh) (M) cc_ ss_ := by
  refine q_kal (fun F => q_cali (fun Q => ?_))
  rw [hS]
  constructor
  · rintro ⟨a', t', hE, ⟨zp1, zp2⟩, hQ⟩
    simp only [List.cons.injEq, Value.ref.injEq, Value.int.injEq, Value.long.injEq, and_true, true_and] at hE
    obtain ⟨rfl, e_t⟩ := hE
    have z_t := nI_inj e_t (by omega) (by omega)
    subst z_t
    exact hQ
  · intro hQ
    exact ⟨a, t, rfl, ⟨p1, p2⟩, hQ⟩
theorem ct68 {S : Nat → mv_Sp} (h61 : S 61 = sp61) : ∀ As sh M P, sp68 As sh M P → (mv_al0 As).length ≤ 3 ∧ mr68 S P 0 (mv_ent As 3) [] sh M 0 0 := by
  rintro As sh M P ⟨a, t, rfl, ⟨p1, p2⟩, hQ⟩
  refine ⟨Nat.le_of_ble_eq_true rfl, ?_⟩
  show mr68 S P 0 [some (.ref a), some (.int (nI t)), none] [] sh M 0 0
  simp (disch := first | assumption | omega) only [e68_0, e68_1, e68_2, e68_3, e68_6, e68_7, e68_8, e68_9, e68_10, e68_13, e68_14, e68_17, e68_18, e68_19, e68_20, e68_23, e68_24, q_gv0, q_gvs, q_isI1, q_isA1, q_hs0, q_hsn, q_hsi, q_hsr, q_hss, q_inc1, List.set_cons_zero, List.set_cons_succ, ↓reduceIte, q_ss0, q_ssi, q_ssr, q_nr0, q_nr10, q_nr11, q_tlS, q_tlN, q_cl, q_let, q_lef, q_ltt, q_ltf, q_eqt, q_eqf, q_add, q_mul, Nat.reduceAdd, Nat.reduceLeDiff, Nat.reduceEqDiff, eq_self, Nat.zero_le, Nat.le_refl, not_false_eq_true, not_true_eq_false, true_and, and_true, and_self, if_true, if_false, cl61 h61, p1.o]
  split <;> rename_i h
  · rw [if_pos h] at hQ; exact hQ
  · rw [if_neg h] at hQ; exact hQ
def sp65 : mv_Sp := fun As sh M Q => ∃ (t : Nat) (h : Int32), As = [.int (nI t), .int h] ∧ ((t < 6)) ∧ Q (some (.int (h <<< (nI (2 * t) &&& 31)))) (sh) (M)
theorem cl65 {S : Nat → mv_Sp} (hS : S 65 = sp65) {sh : mv_Shp} {M : mv_Mem} {t : Nat} {h : Int32} (p1 : t < 6) {K : mv_Kt} {pc : Nat} {L : mv_Loc} {st : List Value} {cc_ ss_ : Nat} : mv_kal S 65 [.int (nI t), .int h] sh M K pc L st cc_ ss_ = K pc L ((some (.int (h <<< (nI (2 * t) &&& 31))) : Option Value).toList ++ st) (sh) (M) cc_ ss_ := by
  refine q_kal (fun F => q_cali (fun Q => ?_))
  rw [hS]
  constructor
  · rintro ⟨t', h', hE, zp1, hQ⟩
    simp only [List.cons.injEq, Value.ref.injEq, Value.int.injEq, Value.long.injEq, and_true, true_and] at hE
    obtain ⟨e_t, rfl⟩ := hE
    have z_t := nI_inj e_t (by omega) (by omega)
    subst z_t
    exact hQ
  · intro hQ
    exact ⟨t, h, rfl, p1, hQ⟩
theorem ct65 {S : Nat → mv_Sp}  : ∀ As sh M P, sp65 As sh M P → (mv_al0 As).length ≤ 2 ∧ mr65 S P 0 (mv_ent As 2) [] sh M 0 0 := by
  rintro As sh M P ⟨t, h, rfl, p1, hQ⟩
  refine ⟨Nat.le_of_ble_eq_true rfl, ?_⟩
  show mr65 S P 0 [some (.int (nI t)), some (.int h)] [] sh M 0 0
  simp (disch := first | assumption | omega) only [e65_0, e65_1, e65_2, e65_3, e65_4, e65_5, q_gv0, q_gvs, q_isI1, q_isA1, q_hs0, q_hsn, q_hsi, q_hsr, q_hss, q_inc1, List.set_cons_zero, List.set_cons_succ, ↓reduceIte, q_ss0, q_ssi, q_ssr, q_nr0, q_nr10, q_nr11, q_tlS, q_tlN, q_cl, q_let, q_lef, q_ltt, q_ltf, q_eqt, q_eqf, q_add, q_mul, Nat.reduceAdd, Nat.reduceLeDiff, Nat.reduceEqDiff, eq_self, Nat.zero_le, Nat.le_refl, not_false_eq_true, not_true_eq_false, true_and, and_true, and_self, if_true, if_false]
  exact hQ
def sp51 : mv_Sp := fun As sh M Q => ∃ (x : Int32) (y : Int32), As = [.int x, .int y] ∧ ((True)) ∧ Q (some (.int (((x &&& nI 1365) + (y &&& nI 1365)) ^^^ ((x ^^^ y) &&& nI 2730)))) (sh) (M)
theorem cl51 {S : Nat → mv_Sp} (hS : S 51 = sp51) {sh : mv_Shp} {M : mv_Mem} {x : Int32} {y : Int32} (p1 : True) {K : mv_Kt} {pc : Nat} {L : mv_Loc} {st : List Value} {cc_ ss_ : Nat} : mv_kal S 51 [.int x, .int y] sh M K pc L st cc_ ss_ = K pc L ((some (.int (((x &&& nI 1365) + (y &&& nI 1365)) ^^^ ((x ^^^ y) &&& nI 2730))) : Option Value).toList ++ st) (sh) (M) cc_ ss_ := by
  refine q_kal (fun F => q_cali (fun Q => ?_))
  rw [hS]
  constructor
  · rintro ⟨x', y', hE, zp1, hQ⟩
    simp only [List.cons.injEq, Value.ref.injEq, Value.int.injEq, Value.long.injEq, and_true, true_and] at hE
    obtain ⟨rfl, rfl⟩ := hE
    exact hQ
  · intro hQ
    exact ⟨x, y, rfl, p1, hQ⟩
theorem ct51 {S : Nat → mv_Sp}  : ∀ As sh M P, sp51 As sh M P → (mv_al0 As).length ≤ 2 ∧ mr51 S P 0 (mv_ent As 2) [] sh M 0 0 := by
  rintro As sh M P ⟨x, y, rfl, p1, hQ⟩
  refine ⟨Nat.le_of_ble_eq_true rfl, ?_⟩
  show mr51 S P 0 [some (.int x), some (.int y)] [] sh M 0 0
  simp (disch := first | assumption | omega) only [e51_0, e51_1, e51_4, e51_5, e51_6, e51_9, e51_10, e51_11, e51_12, e51_13, e51_14, e51_17, e51_18, e51_19, q_gv0, q_gvs, q_isI1, q_isA1, q_hs0, q_hsn, q_hsi, q_hsr, q_hss, q_inc1, List.set_cons_zero, List.set_cons_succ, ↓reduceIte, q_ss0, q_ssi, q_ssr, q_nr0, q_nr10, q_nr11, q_tlS, q_tlN, q_cl, q_let, q_lef, q_ltt, q_ltf, q_eqt, q_eqf, q_add, q_mul, Nat.reduceAdd, Nat.reduceLeDiff, Nat.reduceEqDiff, eq_self, Nat.zero_le, Nat.le_refl, not_false_eq_true, not_true_eq_false, true_and, and_true, and_self, if_true, if_false]
  exact hQ
/-- what comes of it if a tablet is to be turned: 0 turned, 1 stays, 2 jams -/
def ocF (kd w : Nat) (tw lim : Int32) : Nat := if qf kd w = nI 0 then 1 else if lim < (if nI 0 ≤ tw + qf kd w then tw + qf kd w else nI 0 - (tw + qf kd w)) then 2 else 0
def sp62 : mv_Sp := fun As sh M Q => ∃ (c : Nat) (a : Nat) (t : Nat) (w : Nat), As = [.ref c, .ref a, .int (nI t), .int (nI w)] ∧ ((oC sh c) ∧ (oL sh a) ∧ (t < 6) ∧ (w < 2) ∧ (∃ k, k < 4 ∧ M (a + 1) t = nI k)) ∧ Q (some (.int (nI (ocF (M (a + 1) t).toNatClampNeg w (M (c + 1) (t * 5 + 1)) (M a 3))))) (sh) (M)
theorem cl62 {S : Nat → mv_Sp} (hS : S 62 = sp62) {sh : mv_Shp} {M : mv_Mem} {c : Nat} {a : Nat} {t : Nat} {w : Nat} (p1 : oC sh c) (p2 : oL sh a) (p3 : t < 6) (p4 : w < 2) (p5 : ∃ k, k < 4 ∧ M (a + 1) t = nI k) {K : mv_Kt} {pc : Nat} {L : mv_Loc} {st : List Value} {cc_ ss_ : Nat} : mv_kal S 62 [.ref c, .ref a, .int (nI t), .int (nI w)] sh M K pc L st cc_ ss_ = K pc L ((some (.int (nI (ocF (M (a + 1) t).toNatClampNeg w (M (c + 1) (t * 5 + 1)) (M a 3)))) : Option Value).toList ++ st) (sh) (M) cc_ ss_ := by
  refine q_kal (fun F => q_cali (fun Q => ?_))
  rw [hS]
  constructor
  · rintro ⟨c', a', t', w', hE, ⟨zp1, zp2, zp3, zp4, zp5⟩, hQ⟩
    simp only [List.cons.injEq, Value.ref.injEq, Value.int.injEq, Value.long.injEq, and_true, true_and] at hE
    obtain ⟨rfl, rfl, e_t, e_w⟩ := hE
    have z_t := nI_inj e_t (by omega) (by omega)
    subst z_t
    have z_w := nI_inj e_w (by omega) (by omega)
    subst z_w
    exact hQ
  · intro hQ
    exact ⟨c, a, t, w, rfl, ⟨p1, p2, p3, p4, p5⟩, hQ⟩
theorem ct62 {S : Nat → mv_Sp} (h60 : S 60 = sp60) (h61 : S 61 = sp61) : ∀ As sh M P, sp62 As sh M P → (mv_al0 As).length ≤ 5 ∧ mr62 S P 0 (mv_ent As 5) [] sh M 0 0 := by
  rintro As sh M P ⟨c, a, t, w, rfl, ⟨p1, p2, p3, p4, p5⟩, hQ⟩
  refine ⟨Nat.le_of_ble_eq_true rfl, ?_⟩
  show mr62 S P 0 [some (.ref c), some (.ref a), some (.int (nI t)), some (.int (nI w)), none] [] sh M 0 0
  unfold ocF at hQ
  simp (disch := first | assumption | omega) only [e62_0, e62_1, e62_2, e62_3, e62_6, e62_8, e62_10, e62_13, e62_14, e62_15, e62_16, e62_17, e62_18, e62_21, e62_23, e62_24, e62_27, e62_28, e62_31, e62_34, e62_35, e62_38, e62_39, q_gv0, q_gvs, q_isI1, q_isA1, q_hs0, q_hsn, q_hsi, q_hsr, q_hss, q_inc1, List.set_cons_zero, List.set_cons_succ, ↓reduceIte, q_ss0, q_ssi, q_ssr, q_nr0, q_nr10, q_nr11, q_tlS, q_tlN, q_cl, q_let, q_lef, q_ltt, q_ltf, q_eqt, q_eqf, q_add, q_mul, Nat.reduceAdd, Nat.reduceLeDiff, Nat.reduceEqDiff, eq_self, Nat.zero_le, Nat.le_refl, not_false_eq_true, not_true_eq_false, true_and, and_true, and_self, if_true, if_false, cl60 h60, cl61 h61, p1.o, p2.o, p2.g3]
  generalize (if nI 0 ≤ M (c + 1) (t * 5 + 1) + qf (M (a + 1) t).toNatClampNeg w then M (c + 1) (t * 5 + 1) + qf (M (a + 1) t).toNatClampNeg w else nI 0 - (M (c + 1) (t * 5 + 1) + qf (M (a + 1) t).toNatClampNeg w)) = z at hQ ⊢
  by_cases h : qf (M (a + 1) t).toNatClampNeg w = nI 0
  · rw [if_pos h] at hQ ⊢
    exact hQ
  · rw [if_neg h] at hQ ⊢
    by_cases h2 : M a 3 < z
    · rw [if_pos h2] at hQ
      rw [if_neg (Int32.not_le.mpr h2)]
      exact hQ
    · rw [if_neg h2] at hQ
      rw [if_pos (Int32.not_lt.mp h2)]
      exact hQ
