/-! the loom's small methods -/
def sp29 : mv_Sp := fun As sh M Q => ∃ (a : Nat) (t : Nat) (h : Nat), As = [.ref a, .int (nI t), .int (nI h)] ∧ ((oL sh a) ∧ (t < 6) ∧ (h < 4)) ∧ Q (some (.int (M (a + 3) (t * 4 + h)))) (sh) (M)
theorem cl29 {S : Nat → mv_Sp} (hS : S 29 = sp29) {sh : mv_Shp} {M : mv_Mem} {a : Nat} {t : Nat} {h : Nat} (p1 : oL sh a) (p2 : t < 6) (p3 : h < 4) {K : mv_Kt} {pc : Nat} {L : mv_Loc} {st : List Value} {cc_ ss_ : Nat} : mv_kal S 29 [.ref a, .int (nI t), .int (nI h)] sh M K pc L st cc_ ss_ = K pc L ((some (.int (M (a + 3) (t * 4 + h))) : Option Value).toList ++ st) (sh) (M) cc_ ss_ := by
  refine q_kal (fun F => q_cali (fun Q => ?_))
  rw [hS]
  constructor
  · rintro ⟨a', t', h', hE, ⟨zp1, zp2, zp3⟩, hQ⟩
    simp only [List.cons.injEq, Value.ref.injEq, Value.int.injEq, Value.long.injEq, and_true, true_and] at hE
    obtain ⟨rfl, e_t, e_h⟩ := hE
    have z_t := nI_inj e_t (by omega) (by omega)
    subst z_t
    have z_h := nI_inj e_h (by omega) (by omega)
    subst z_h
    exact hQ
  · intro hQ
    exact ⟨a, t, h, rfl, ⟨p1, p2, p3⟩, hQ⟩
theorem ct29 {S : Nat → mv_Sp}  : ∀ As sh M P, sp29 As sh M P → (mv_al0 As).length ≤ 3 ∧ mr29 S P 0 (mv_ent As 3) [] sh M 0 0 := by
  rintro As sh M P ⟨a, t, h, rfl, ⟨p1, p2, p3⟩, hQ⟩
  refine ⟨Nat.le_of_ble_eq_true rfl, ?_⟩
  show mr29 S P 0 [some (.ref a), some (.int (nI t)), some (.int (nI h))] [] sh M 0 0
  simp (disch := first | assumption | omega) only [e29_0, e29_1, e29_4, e29_5, e29_7, e29_10, e29_11, e29_14, e29_15, e29_16, e29_19, e29_20, e29_23, e29_24, e29_25, e29_26, e29_27, e29_28, e29_29, e29_32, e29_33, q_gv0, q_gvs, q_isI1, q_isA1, q_hs0, q_hsn, q_hsi, q_hsr, q_hss, q_inc1, List.set_cons_zero, List.set_cons_succ, ↓reduceIte, q_ss0, q_ssi, q_ssr, q_nr0, q_nr10, q_nr11, q_tlS, q_tlN, q_cl, q_let, q_lef, q_ltt, q_ltf, q_eqt, q_eqf, q_add, q_mul, Nat.reduceAdd, Nat.reduceLeDiff, Nat.reduceEqDiff, eq_self, Nat.zero_le, Nat.le_refl, not_false_eq_true, not_true_eq_false, true_and, and_true, and_self, if_true, if_false, p1.g6, p1.l3]
  exact hQ
def sp57 : mv_Sp := fun As sh M Q => ∃ (a : Nat) (p : Nat), As = [.ref a, .int (nI p)] ∧ ((oL sh a) ∧ (p < 6)) ∧ Q (some (.int (M (a + 5) p))) (sh) (M)
theorem cl57 {S : Nat → mv_Sp} (hS : S 57 = sp57) {sh : mv_Shp} {M : mv_Mem} {a : Nat} {p : Nat} (p1 : oL sh a) (p2 : p < 6) {K : mv_Kt} {pc : Nat} {L : mv_Loc} {st : List Value} {cc_ ss_ : Nat} : mv_kal S 57 [.ref a, .int (nI p)] sh M K pc L st cc_ ss_ = K pc L ((some (.int (M (a + 5) p)) : Option Value).toList ++ st) (sh) (M) cc_ ss_ := by
  refine q_kal (fun F => q_cali (fun Q => ?_))
  rw [hS]
  constructor
  · rintro ⟨a', p', hE, ⟨zp1, zp2⟩, hQ⟩
    simp only [List.cons.injEq, Value.ref.injEq, Value.int.injEq, Value.long.injEq, and_true, true_and] at hE
    obtain ⟨rfl, e_p⟩ := hE
    have z_p := nI_inj e_p (by omega) (by omega)
    subst z_p
    exact hQ
  · intro hQ
    exact ⟨a, p, rfl, ⟨p1, p2⟩, hQ⟩
theorem ct57 {S : Nat → mv_Sp}  : ∀ As sh M P, sp57 As sh M P → (mv_al0 As).length ≤ 2 ∧ mr57 S P 0 (mv_ent As 2) [] sh M 0 0 := by
  rintro As sh M P ⟨a, p, rfl, ⟨p1, p2⟩, hQ⟩
  refine ⟨Nat.le_of_ble_eq_true rfl, ?_⟩
  show mr57 S P 0 [some (.ref a), some (.int (nI p))] [] sh M 0 0
  simp (disch := first | assumption | omega) only [e57_0, e57_1, e57_4, e57_5, e57_7, e57_10, e57_11, e57_14, e57_15, e57_16, e57_19, e57_20, q_gv0, q_gvs, q_isI1, q_isA1, q_hs0, q_hsn, q_hsi, q_hsr, q_hss, q_inc1, List.set_cons_zero, List.set_cons_succ, ↓reduceIte, q_ss0, q_ssi, q_ssr, q_nr0, q_nr10, q_nr11, q_tlS, q_tlN, q_cl, q_let, q_lef, q_ltt, q_ltf, q_eqt, q_eqf, q_add, q_mul, Nat.reduceAdd, Nat.reduceLeDiff, Nat.reduceEqDiff, eq_self, Nat.zero_le, Nat.le_refl, not_false_eq_true, not_true_eq_false, true_and, and_true, and_self, if_true, if_false, p1.g8, p1.l5]
  exact hQ
def sp59 : mv_Sp := fun As sh M Q => ∃ (a : Nat) (t : Nat), As = [.ref a, .int (nI t)] ∧ ((oL sh a) ∧ (t < 6)) ∧ Q (some (.int (M (a + 1) t))) (sh) (M)
theorem cl59 {S : Nat → mv_Sp} (hS : S 59 = sp59) {sh : mv_Shp} {M : mv_Mem} {a : Nat} {t : Nat} (p1 : oL sh a) (p2 : t < 6) {K : mv_Kt} {pc : Nat} {L : mv_Loc} {st : List Value} {cc_ ss_ : Nat} : mv_kal S 59 [.ref a, .int (nI t)] sh M K pc L st cc_ ss_ = K pc L ((some (.int (M (a + 1) t)) : Option Value).toList ++ st) (sh) (M) cc_ ss_ := by
  refine q_kal (fun F => q_cali (fun Q => ?_))
  rw [hS]
  constructor
  · rintro ⟨a', t', hE, ⟨zp1, zp2⟩, hQ⟩
    simp only [List.cons.injEq, Value.ref.injEq, Value.int.injEq, Value.long.injEq, and_true, true_and] at hE
    obtain ⟨rfl, e_t⟩ := hE
    have z_t := nI_inj e_t (by omega) (by omega)
    subst z_t
    exact hQ
  · intro hQ
    exact ⟨a, t, rfl, ⟨p1, p2⟩, hQ⟩
theorem ct59 {S : Nat → mv_Sp}  : ∀ As sh M P, sp59 As sh M P → (mv_al0 As).length ≤ 2 ∧ mr59 S P 0 (mv_ent As 2) [] sh M 0 0 := by
  rintro As sh M P ⟨a, t, rfl, ⟨p1, p2⟩, hQ⟩
  refine ⟨Nat.le_of_ble_eq_true rfl, ?_⟩
  show mr59 S P 0 [some (.ref a), some (.int (nI t))] [] sh M 0 0
  simp (disch := first | assumption | omega) only [e59_0, e59_1, e59_4, e59_5, e59_7, e59_10, e59_11, e59_14, e59_15, e59_16, e59_19, e59_20, q_gv0, q_gvs, q_isI1, q_isA1, q_hs0, q_hsn, q_hsi, q_hsr, q_hss, q_inc1, List.set_cons_zero, List.set_cons_succ, ↓reduceIte, q_ss0, q_ssi, q_ssr, q_nr0, q_nr10, q_nr11, q_tlS, q_tlN, q_cl, q_let, q_lef, q_ltt, q_ltf, q_eqt, q_eqf, q_add, q_mul, Nat.reduceAdd, Nat.reduceLeDiff, Nat.reduceEqDiff, eq_self, Nat.zero_le, Nat.le_refl, not_false_eq_true, not_true_eq_false, true_and, and_true, and_self, if_true, if_false, p1.g4, p1.l1]
  exact hQ
def sp58 : mv_Sp := fun As sh M Q => ∃ (a : Nat) (p : Nat) (t : Nat), As = [.ref a, .int (nI p), .int (nI t)] ∧ ((oL sh a) ∧ (p < 6) ∧ (t < 6)) ∧ Q (some (.int (if M (a + 5) p >>> (nI t &&& 31) &&& nI 1 = nI 1 then nI 1 else nI 0))) (sh) (M)
theorem cl58 {S : Nat → mv_Sp} (hS : S 58 = sp58) {sh : mv_Shp} {M : mv_Mem} {a : Nat} {p : Nat} {t : Nat} (p1 : oL sh a) (p2 : p < 6) (p3 : t < 6) {K : mv_Kt} {pc : Nat} {L : mv_Loc} {st : List Value} {cc_ ss_ : Nat} : mv_kal S 58 [.ref a, .int (nI p), .int (nI t)] sh M K pc L st cc_ ss_ = K pc L ((some (.int (if M (a + 5) p >>> (nI t &&& 31) &&& nI 1 = nI 1 then nI 1 else nI 0)) : Option Value).toList ++ st) (sh) (M) cc_ ss_ := by
  refine q_kal (fun F => q_cali (fun Q => ?_))
  rw [hS]
  constructor
  · rintro ⟨a', p', t', hE, ⟨zp1, zp2, zp3⟩, hQ⟩
    simp only [List.cons.injEq, Value.ref.injEq, Value.int.injEq, Value.long.injEq, and_true, true_and] at hE
    obtain ⟨rfl, e_p, e_t⟩ := hE
    have z_p := nI_inj e_p (by omega) (by omega)
    subst z_p
    have z_t := nI_inj e_t (by omega) (by omega)
    subst z_t
    exact hQ
  · intro hQ
    exact ⟨a, p, t, rfl, ⟨p1, p2, p3⟩, hQ⟩
theorem ct58 {S : Nat → mv_Sp} (h57 : S 57 = sp57) : ∀ As sh M P, sp58 As sh M P → (mv_al0 As).length ≤ 3 ∧ mr58 S P 0 (mv_ent As 3) [] sh M 0 0 := by
  rintro As sh M P ⟨a, p, t, rfl, ⟨p1, p2, p3⟩, hQ⟩
  refine ⟨Nat.le_of_ble_eq_true rfl, ?_⟩
  show mr58 S P 0 [some (.ref a), some (.int (nI p)), some (.int (nI t))] [] sh M 0 0
  simp (disch := first | assumption | omega) only [e58_0, e58_1, e58_2, e58_5, e58_6, e58_7, e58_8, e58_9, e58_10, e58_13, e58_14, e58_17, e58_18, q_gv0, q_gvs, q_isI1, q_isA1, q_hs0, q_hsn, q_hsi, q_hsr, q_hss, q_inc1, List.set_cons_zero, List.set_cons_succ, ↓reduceIte, q_ss0, q_ssi, q_ssr, q_nr0, q_nr10, q_nr11, q_tlS, q_tlN, q_cl, q_let, q_lef, q_ltt, q_ltf, q_eqt, q_eqf, q_add, q_mul, Nat.reduceAdd, Nat.reduceLeDiff, Nat.reduceEqDiff, eq_self, Nat.zero_le, Nat.le_refl, not_false_eq_true, not_true_eq_false, true_and, and_true, and_self, if_true, if_false, cl57 h57, p1.o]
  split <;> rename_i h
  · rw [if_pos h] at hQ; exact hQ
  · rw [if_neg h] at hQ; exact hQ
/-- by how many quarters a tablet of the kind is turned -/
def qf : Nat → Nat → Int32
  | 1, 0 => 2
  | 1, _ => -2
  | 2, 0 => -1
  | 2, _ => 1
  | 3, 0 => 1
  | 3, _ => 0
  | _, 0 => 1
  | _, _ => -1
def sp60 : mv_Sp := fun As sh M Q => ∃ (a : Nat) (t : Nat) (w : Nat), As = [.ref a, .int (nI t), .int (nI w)] ∧ ((oL sh a) ∧ (t < 6) ∧ (w < 2) ∧ (∃ k, k < 4 ∧ M (a + 1) t = nI k)) ∧ Q (some (.int (qf (M (a + 1) t).toNatClampNeg w))) (sh) (M)
theorem cl60 {S : Nat → mv_Sp} (hS : S 60 = sp60) {sh : mv_Shp} {M : mv_Mem} {a : Nat} {t : Nat} {w : Nat} (p1 : oL sh a) (p2 : t < 6) (p3 : w < 2) (p4 : ∃ k, k < 4 ∧ M (a + 1) t = nI k) {K : mv_Kt} {pc : Nat} {L : mv_Loc} {st : List Value} {cc_ ss_ : Nat} : mv_kal S 60 [.ref a, .int (nI t), .int (nI w)] sh M K pc L st cc_ ss_ = K pc L ((some (.int (qf (M (a + 1) t).toNatClampNeg w)) : Option Value).toList ++ st) (sh) (M) cc_ ss_ := by
  refine q_kal (fun F => q_cali (fun Q => ?_))
  rw [hS]
  constructor
  · rintro ⟨a', t', w', hE, ⟨zp1, zp2, zp3, zp4⟩, hQ⟩
    simp only [List.cons.injEq, Value.ref.injEq, Value.int.injEq, Value.long.injEq, and_true, true_and] at hE
    obtain ⟨rfl, e_t, e_w⟩ := hE
    have z_t := nI_inj e_t (by omega) (by omega)
    subst z_t
    have z_w := nI_inj e_w (by omega) (by omega)
    subst z_w
    exact hQ
  · intro hQ
    exact ⟨a, t, w, rfl, ⟨p1, p2, p3, p4⟩, hQ⟩
theorem ct60 {S : Nat → mv_Sp} (h59 : S 59 = sp59) : ∀ As sh M P, sp60 As sh M P → (mv_al0 As).length ≤ 4 ∧ mr60 S P 0 (mv_ent As 4) [] sh M 0 0 := by
  rintro As sh M P ⟨a, t, w, rfl, ⟨p1, p2, p3, p4⟩, hQ⟩
  refine ⟨Nat.le_of_ble_eq_true rfl, ?_⟩
  show mr60 S P 0 [some (.ref a), some (.int (nI t)), some (.int (nI w)), none] [] sh M 0 0
  obtain ⟨k, hk, hkd⟩ := p4
  rw [hkd, q_cl (by omega)] at hQ
  rcases (show w = 0 ∨ w = 1 by omega) with rfl | rfl <;> rcases (show k = 0 ∨ k = 1 ∨ k = 2 ∨ k = 3 by omega) with rfl | rfl | rfl | rfl <;>
  · simp (disch := first | assumption | omega) only [e60_0, e60_1, e60_4, e60_5, e60_8, e60_9, e60_10, e60_11, e60_12, e60_15, e60_40, e60_41, e60_42, e60_43, e60_44, e60_45, e60_46, e60_47, e60_48, e60_51, e60_52, e60_55, e60_56, e60_57, e60_58, q_gv0, q_gvs, q_isI1, q_isA1, q_hs0, q_hsn, q_hsi, q_hsr, q_hss, q_inc1, List.set_cons_zero, List.set_cons_succ, ↓reduceIte, q_ss0, q_ssi, q_ssr, q_nr0, q_nr10, q_nr11, q_tlS, q_tlN, q_cl, q_let, q_lef, q_ltt, q_ltf, q_eqt, q_eqf, q_add, q_mul, Nat.reduceAdd, Nat.reduceLeDiff, Nat.reduceEqDiff, eq_self, Nat.zero_le, Nat.le_refl, not_false_eq_true, not_true_eq_false, true_and, and_true, and_self, if_true, if_false, cl59 h59, p1.o, hkd, Int.reduceAdd]
    exact hQ
