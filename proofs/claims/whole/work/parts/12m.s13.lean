/-! the loom asked; small public methods -/
def sp73 : mv_Sp := fun As sh M Q => ∃ (a : Nat) (x : Int32), As = [.ref a, .int x] ∧ ((oL sh a) ∧ (∃ n, n ≤ 6 ∧ M a 0 = nI n)) ∧ Q (some (.int (if x < nI 0 then nI 0 else if nI (10 ^ (M a 0).toNatClampNeg) ≤ x then nI 0 else nI 1))) (sh) (M)
theorem cl73 {S : Nat → mv_Sp} (hS : S 73 = sp73) {sh : mv_Shp} {M : mv_Mem} {a : Nat} {x : Int32} (p1 : oL sh a) (p2 : ∃ n, n ≤ 6 ∧ M a 0 = nI n) {K : mv_Kt} {pc : Nat} {L : mv_Loc} {st : List Value} {cc_ ss_ : Nat} : mv_kal S 73 [.ref a, .int x] sh M K pc L st cc_ ss_ = K pc L ((some (.int (if x < nI 0 then nI 0 else if nI (10 ^ (M a 0).toNatClampNeg) ≤ x then nI 0 else nI 1)) : Option Value).toList ++ st) (sh) (M) cc_ ss_ := by
  refine q_kal (fun F => q_cali (fun Q => ?_))
  rw [hS]
  constructor
  · rintro ⟨a', x', hE, ⟨zp1, zp2⟩, hQ⟩
    simp only [List.cons.injEq, Value.ref.injEq, Value.int.injEq, Value.long.injEq, and_true, true_and] at hE
    obtain ⟨rfl, rfl⟩ := hE
    exact hQ
  · intro hQ
    exact ⟨a, x, rfl, ⟨p1, p2⟩, hQ⟩
theorem ct73 {S : Nat → mv_Sp}  : ∀ As sh M P, sp73 As sh M P → (mv_al0 As).length ≤ 4 ∧ mr73 S P 0 (mv_ent As 4) [] sh M 0 0 := by
  rintro As sh M P ⟨a, x, rfl, ⟨p1, p2⟩, hQ⟩
  refine ⟨Nat.le_of_ble_eq_true rfl, ?_⟩
  show mr73 S P 0 [some (.ref a), some (.int x), none, none] [] sh M 0 0
  obtain ⟨nT, h6, hT⟩ := p2
  rw [hT, q_cl (by omega)] at hQ
  have fin : ∀ j, mr73 S P 23 [some (.ref a), some (.int x), some (.int (nI (10 ^ nT))), some (.int (nI j))] [] sh M 0 0 := by
    intro j
    by_cases c1 : x < nI 0
    · rw [if_pos c1] at hQ
      simp (disch := first | assumption | omega) only [e73_0, e73_1, e73_2, e73_3, e73_5, e73_6, e73_9, e73_12, e73_13, e73_15, e73_16, e73_17, e73_20, e73_23, e73_24, e73_27, e73_28, e73_29, e73_32, e73_33, e73_36, e73_37, q_gv0, q_gvs, q_isI1, q_isA1, q_hs0, q_hsn, q_hsi, q_hsr, q_hss, q_inc1, List.set_cons_zero, List.set_cons_succ, ↓reduceIte, q_ss0, q_ssi, q_ssr, q_nr0, q_nr10, q_nr11, q_tlS, q_tlN, q_cl, q_let, q_lef, q_ltt, q_ltf, q_eqt, q_eqf, q_add, q_mul, Nat.reduceAdd, Nat.reduceLeDiff, Nat.reduceEqDiff, eq_self, Nat.zero_le, Nat.le_refl, not_false_eq_true, not_true_eq_false, true_and, and_true, and_self, if_true, if_false, c1]
      exact hQ
    · rw [if_neg c1] at hQ
      by_cases c2 : nI (10 ^ nT) ≤ x
      · rw [if_pos c2] at hQ
        simp (disch := first | assumption | omega) only [e73_0, e73_1, e73_2, e73_3, e73_5, e73_6, e73_9, e73_12, e73_13, e73_15, e73_16, e73_17, e73_20, e73_23, e73_24, e73_27, e73_28, e73_29, e73_32, e73_33, e73_36, e73_37, q_gv0, q_gvs, q_isI1, q_isA1, q_hs0, q_hsn, q_hsi, q_hsr, q_hss, q_inc1, List.set_cons_zero, List.set_cons_succ, ↓reduceIte, q_ss0, q_ssi, q_ssr, q_nr0, q_nr10, q_nr11, q_tlS, q_tlN, q_cl, q_let, q_lef, q_ltt, q_ltf, q_eqt, q_eqf, q_add, q_mul, Nat.reduceAdd, Nat.reduceLeDiff, Nat.reduceEqDiff, eq_self, Nat.zero_le, Nat.le_refl, not_false_eq_true, not_true_eq_false, true_and, and_true, and_self, if_true, if_false, c1, c2]
        exact hQ
      · rw [if_neg c2] at hQ
        simp (disch := first | assumption | omega) only [e73_0, e73_1, e73_2, e73_3, e73_5, e73_6, e73_9, e73_12, e73_13, e73_15, e73_16, e73_17, e73_20, e73_23, e73_24, e73_27, e73_28, e73_29, e73_32, e73_33, e73_36, e73_37, q_gv0, q_gvs, q_isI1, q_isA1, q_hs0, q_hsn, q_hsi, q_hsr, q_hss, q_inc1, List.set_cons_zero, List.set_cons_succ, ↓reduceIte, q_ss0, q_ssi, q_ssr, q_nr0, q_nr10, q_nr11, q_tlS, q_tlN, q_cl, q_let, q_lef, q_ltt, q_ltf, q_eqt, q_eqf, q_add, q_mul, Nat.reduceAdd, Nat.reduceLeDiff, Nat.reduceEqDiff, eq_self, Nat.zero_le, Nat.le_refl, not_false_eq_true, not_true_eq_false, true_and, and_true, and_self, if_true, if_false, c1, c2]
        exact hQ
  have lp : ∀ n j, j + n = nT → mr73 S P 4 [some (.ref a), some (.int x), some (.int (nI (10 ^ j))), some (.int (nI j))] [] sh M 0 0 := by
    intro n
    induction n with
    | zero =>
      intro j hj
      obtain rfl : j = nT := by omega
      rw [e73_4]
      simp (disch := first | assumption | omega) only [e73_0, e73_1, e73_2, e73_3, e73_5, e73_6, e73_9, e73_12, e73_13, e73_15, e73_16, e73_17, e73_20, e73_24, e73_27, e73_28, e73_29, e73_32, e73_33, e73_36, e73_37, q_gv0, q_gvs, q_isI1, q_isA1, q_hs0, q_hsn, q_hsi, q_hsr, q_hss, q_inc1, List.set_cons_zero, List.set_cons_succ, ↓reduceIte, q_ss0, q_ssi, q_ssr, q_nr0, q_nr10, q_nr11, q_tlS, q_tlN, q_cl, q_let, q_lef, q_ltt, q_ltf, q_eqt, q_eqf, q_add, q_mul, Nat.reduceAdd, Nat.reduceLeDiff, Nat.reduceEqDiff, eq_self, Nat.zero_le, Nat.le_refl, not_false_eq_true, not_true_eq_false, true_and, and_true, and_self, if_true, if_false, p1.g0, hT]
      exact fin j
    | succ n ih =>
      intro j hj
      have i1 := ih (j + 1) (by omega)
      rw [Nat.pow_succ] at i1
      rw [e73_4]
      simp (disch := first | assumption | omega) only [e73_0, e73_1, e73_2, e73_3, e73_5, e73_6, e73_9, e73_12, e73_13, e73_15, e73_16, e73_17, e73_20, e73_24, e73_27, e73_28, e73_29, e73_32, e73_33, e73_36, e73_37, q_gv0, q_gvs, q_isI1, q_isA1, q_hs0, q_hsn, q_hsi, q_hsr, q_hss, q_inc1, List.set_cons_zero, List.set_cons_succ, ↓reduceIte, q_ss0, q_ssi, q_ssr, q_nr0, q_nr10, q_nr11, q_tlS, q_tlN, q_cl, q_let, q_lef, q_ltt, q_ltf, q_eqt, q_eqf, q_add, q_mul, Nat.reduceAdd, Nat.reduceLeDiff, Nat.reduceEqDiff, eq_self, Nat.zero_le, Nat.le_refl, not_false_eq_true, not_true_eq_false, true_and, and_true, and_self, if_true, if_false, p1.g0, hT]
      exact i1
  simp (disch := first | assumption | omega) only [e73_0, e73_1, e73_2, e73_3, q_gv0, q_gvs, q_isI1, q_isA1, q_hs0, q_hsn, q_hsi, q_hsr, q_hss, q_inc1, List.set_cons_zero, List.set_cons_succ, ↓reduceIte, q_ss0, q_ssi, q_ssr, q_nr0, q_nr10, q_nr11, q_tlS, q_tlN, q_cl, q_let, q_lef, q_ltt, q_ltf, q_eqt, q_eqf, q_add, q_mul, Nat.reduceAdd, Nat.reduceLeDiff, Nat.reduceEqDiff, eq_self, Nat.zero_le, Nat.le_refl, not_false_eq_true, not_true_eq_false, true_and, and_true, and_self, if_true, if_false]
  exact lp nT 0 (by omega)
/-- does a number tell these colours -/
def shF (g : Nat → Int32) : Nat → Nat → Nat
  | 0, v => if v = 0 then 1 else 0
  | t + 1, v => if g t = nI (v % 10) then shF g t (v / 10) else 0
theorem lp74 {S : Nat → mv_Sp} (h29 : S 29 = sp29) {sh : mv_Shp} {M : mv_Mem} {P : mv_Post} {a nT : Nat} {x y : Int32} (p1 : oL sh a) (hT6 : nT ≤ 6) :
    ∀ t v, t ≤ nT → v < 2147483648 → P (some (.int (nI (shF (fun t => M (a + 3) (t * 4 + (hlF x t).toNatClampNeg)) t v)))) sh M → mr74 S P 10 [some (.ref a), some (.int x), some (.int y), some (.int (nI v)), some (.int (nI t + Int32.ofInt (-1)))] [] sh M 0 0
  | 0, v, h, hv, hQ => by
    unfold shF at hQ
    rw [e74_10]
    by_cases c : v = 0
    · rw [if_pos c] at hQ
      simp (disch := first | assumption | omega) only [e74_0, e74_1, e74_2, e74_3, e74_6, e74_7, e74_8, e74_12, e74_15, e74_16, e74_18, e74_19, e74_20, e74_22, e74_23, e74_24, e74_25, e74_26, e74_29, e74_30, e74_32, e74_33, e74_36, e74_37, e74_38, e74_39, e74_41, e74_42, e74_43, e74_46, e74_49, e74_50, e74_53, e74_54, e74_57, e74_58, q_gv0, q_gvs, q_isI1, q_isA1, q_hs0, q_hsn, q_hsi, q_hsr, q_hss, q_inc1, List.set_cons_zero, List.set_cons_succ, ↓reduceIte, q_ss0, q_ssi, q_ssr, q_nr0, q_nr10, q_nr11, q_tlS, q_tlN, q_cl, q_let, q_lef, q_ltt, q_ltf, q_eqt, q_eqf, q_add, q_mul, Nat.reduceAdd, Nat.reduceLeDiff, Nat.reduceEqDiff, eq_self, Nat.zero_le, Nat.le_refl, not_false_eq_true, not_true_eq_false, true_and, and_true, and_self, if_true, if_false, q_dec0, q_m1lt, c]
      exact hQ
    · rw [if_neg c] at hQ
      simp (disch := first | assumption | omega) only [e74_0, e74_1, e74_2, e74_3, e74_6, e74_7, e74_8, e74_12, e74_15, e74_16, e74_18, e74_19, e74_20, e74_22, e74_23, e74_24, e74_25, e74_26, e74_29, e74_30, e74_32, e74_33, e74_36, e74_37, e74_38, e74_39, e74_41, e74_42, e74_43, e74_46, e74_49, e74_50, e74_53, e74_54, e74_57, e74_58, q_gv0, q_gvs, q_isI1, q_isA1, q_hs0, q_hsn, q_hsi, q_hsr, q_hss, q_inc1, List.set_cons_zero, List.set_cons_succ, ↓reduceIte, q_ss0, q_ssi, q_ssr, q_nr0, q_nr10, q_nr11, q_tlS, q_tlN, q_cl, q_let, q_lef, q_ltt, q_ltf, q_eqt, q_eqf, q_add, q_mul, Nat.reduceAdd, Nat.reduceLeDiff, Nat.reduceEqDiff, eq_self, Nat.zero_le, Nat.le_refl, not_false_eq_true, not_true_eq_false, true_and, and_true, and_self, if_true, if_false, q_dec0, q_m1lt, c]
      exact hQ
  | t + 1, v, h, hv, hQ => by
    obtain ⟨hh, h4, he⟩ := hlF_lt x t
    unfold shF at hQ
    rw [he, q_cl (show hh < 2147483648 by omega)] at hQ
    have he : x >>> (nI (2 * t) &&& 31) &&& nI 3 = nI hh := he
    rw [e74_10]
    by_cases c : M (a + 3) (t * 4 + hh) = nI (v % 10)
    · rw [if_pos c] at hQ
      have ih := lp74 h29 (y := y) p1 hT6 t (v / 10) (by omega) (by omega) hQ
      simp (disch := first | assumption | omega) only [e74_0, e74_1, e74_2, e74_3, e74_6, e74_7, e74_8, e74_12, e74_15, e74_16, e74_18, e74_19, e74_20, e74_22, e74_23, e74_24, e74_25, e74_26, e74_29, e74_30, e74_32, e74_33, e74_36, e74_37, e74_38, e74_39, e74_41, e74_42, e74_43, e74_46, e74_49, e74_50, e74_53, e74_54, e74_57, e74_58, q_gv0, q_gvs, q_isI1, q_isA1, q_hs0, q_hsn, q_hsi, q_hsr, q_hss, q_inc1, List.set_cons_zero, List.set_cons_succ, ↓reduceIte, q_ss0, q_ssi, q_ssr, q_nr0, q_nr10, q_nr11, q_tlS, q_tlN, q_cl, q_let, q_lef, q_ltt, q_ltf, q_eqt, q_eqf, q_add, q_mul, Nat.reduceAdd, Nat.reduceLeDiff, Nat.reduceEqDiff, eq_self, Nat.zero_le, Nat.le_refl, not_false_eq_true, not_true_eq_false, true_and, and_true, and_self, if_true, if_false, p1.o, he, cl29 h29, q_dec, c, q_div, q_rem]
      exact ih
    · rw [if_neg c] at hQ
      simp (disch := first | assumption | omega) only [e74_0, e74_1, e74_2, e74_3, e74_6, e74_7, e74_8, e74_12, e74_15, e74_16, e74_18, e74_19, e74_20, e74_22, e74_23, e74_24, e74_25, e74_26, e74_29, e74_30, e74_32, e74_33, e74_36, e74_37, e74_38, e74_39, e74_41, e74_42, e74_43, e74_46, e74_49, e74_50, e74_53, e74_54, e74_57, e74_58, q_gv0, q_gvs, q_isI1, q_isA1, q_hs0, q_hsn, q_hsi, q_hsr, q_hss, q_inc1, List.set_cons_zero, List.set_cons_succ, ↓reduceIte, q_ss0, q_ssi, q_ssr, q_nr0, q_nr10, q_nr11, q_tlS, q_tlN, q_cl, q_let, q_lef, q_ltt, q_ltf, q_eqt, q_eqf, q_add, q_mul, Nat.reduceAdd, Nat.reduceLeDiff, Nat.reduceEqDiff, eq_self, Nat.zero_le, Nat.le_refl, not_false_eq_true, not_true_eq_false, true_and, and_true, and_self, if_true, if_false, p1.o, he, cl29 h29, q_dec, c, q_div, q_rem]
      exact hQ
def sp74 : mv_Sp := fun As sh M Q => ∃ (a : Nat) (x : Int32) (v : Nat), As = [.ref a, .int x, .int (nI v)] ∧ ((oL sh a) ∧ (∃ n, n ≤ 6 ∧ M a 0 = nI n) ∧ (v < 2147483648)) ∧ Q (some (.int (nI (shF (fun t => M (a + 3) (t * 4 + (hlF x t).toNatClampNeg)) (M a 0).toNatClampNeg v)))) (sh) (M)
theorem cl74 {S : Nat → mv_Sp} (hS : S 74 = sp74) {sh : mv_Shp} {M : mv_Mem} {a : Nat} {x : Int32} {v : Nat} (p1 : oL sh a) (p2 : ∃ n, n ≤ 6 ∧ M a 0 = nI n) (p3 : v < 2147483648) {K : mv_Kt} {pc : Nat} {L : mv_Loc} {st : List Value} {cc_ ss_ : Nat} : mv_kal S 74 [.ref a, .int x, .int (nI v)] sh M K pc L st cc_ ss_ = K pc L ((some (.int (nI (shF (fun t => M (a + 3) (t * 4 + (hlF x t).toNatClampNeg)) (M a 0).toNatClampNeg v))) : Option Value).toList ++ st) (sh) (M) cc_ ss_ := by
  refine q_kal (fun F => q_cali (fun Q => ?_))
  rw [hS]
  constructor
  · rintro ⟨a', x', v', hE, ⟨zp1, zp2, zp3⟩, hQ⟩
    simp only [List.cons.injEq, Value.ref.injEq, Value.int.injEq, Value.long.injEq, and_true, true_and] at hE
    obtain ⟨rfl, rfl, e_v⟩ := hE
    have z_v := nI_inj e_v (by omega) (by omega)
    subst z_v
    exact hQ
  · intro hQ
    exact ⟨a, x, v, rfl, ⟨p1, p2, p3⟩, hQ⟩
theorem ct74 {S : Nat → mv_Sp} (h29 : S 29 = sp29) : ∀ As sh M P, sp74 As sh M P → (mv_al0 As).length ≤ 5 ∧ mr74 S P 0 (mv_ent As 5) [] sh M 0 0 := by
  rintro As sh M P ⟨a, x, v, rfl, ⟨p1, p2, p3⟩, hQ⟩
  refine ⟨Nat.le_of_ble_eq_true rfl, ?_⟩
  show mr74 S P 0 [some (.ref a), some (.int x), some (.int (nI v)), none, none] [] sh M 0 0
  obtain ⟨nT, h6, hT⟩ := p2
  rw [hT, q_cl (show nT < 2147483648 by omega)] at hQ
  have e : nI nT - nI 1 = nI nT + Int32.ofInt (-1) := by
    have : ∀ k : Fin 7, nI k.1 - nI 1 = nI k.1 + Int32.ofInt (-1) := by decide +kernel
    exact this ⟨nT, by omega⟩
  have e1 : (nI nT - nI 1) = nI nT + Int32.ofInt (-1) := e
  rcases nT with _ | m
  · have e0 : nI 0 - nI 1 = nI 0 + Int32.ofInt (-1) := e
    simp (disch := first | assumption | omega) only [e74_0, e74_1, e74_2, e74_3, e74_6, e74_7, e74_8, q_gv0, q_gvs, q_isI1, q_isA1, q_hs0, q_hsn, q_hsi, q_hsr, q_hss, q_inc1, List.set_cons_zero, List.set_cons_succ, ↓reduceIte, q_ss0, q_ssi, q_ssr, q_nr0, q_nr10, q_nr11, q_tlS, q_tlN, q_cl, q_let, q_lef, q_ltt, q_ltf, q_eqt, q_eqf, q_add, q_mul, Nat.reduceAdd, Nat.reduceLeDiff, Nat.reduceEqDiff, eq_self, Nat.zero_le, Nat.le_refl, not_false_eq_true, not_true_eq_false, true_and, and_true, and_self, if_true, if_false, p1.g0, hT, e0]
    exact lp74 h29 p1 h6 0 v (by omega) p3 hQ
  · have ih := lp74 h29 (y := nI v) p1 h6 (m + 1) v (by omega) p3 hQ
    rw [q_dec] at ih
    simp (disch := first | assumption | omega) only [e74_0, e74_1, e74_2, e74_3, e74_6, e74_7, e74_8, q_gv0, q_gvs, q_isI1, q_isA1, q_hs0, q_hsn, q_hsi, q_hsr, q_hss, q_inc1, List.set_cons_zero, List.set_cons_succ, ↓reduceIte, q_ss0, q_ssi, q_ssr, q_nr0, q_nr10, q_nr11, q_tlS, q_tlN, q_cl, q_let, q_lef, q_ltt, q_ltf, q_eqt, q_eqf, q_add, q_mul, Nat.reduceAdd, Nat.reduceLeDiff, Nat.reduceEqDiff, eq_self, Nat.zero_le, Nat.le_refl, not_false_eq_true, not_true_eq_false, true_and, and_true, and_self, if_true, if_false, p1.g0, hT, q_sub, Nat.add_sub_cancel]
    exact ih
/-- a turn of the set p by way w, as tops' steps -/
def stF (M : mv_Mem) (a p w : Nat) : Nat → Int32
  | 0 => nI 0
  | t + 1 => if M (a + 5) p >>> (nI t &&& 31) &&& nI 1 = nI 1 then stF M a p w t ||| ((qf (M (a + 1) t).toNatClampNeg w &&& nI 3) <<< (nI (2 * t) &&& 31)) else stF M a p w t
theorem lp80 {S : Nat → mv_Sp} (h58 : S 58 = sp58) (h60 : S 60 = sp60) (h65 : S 65 = sp65) {sh : mv_Shp} {M : mv_Mem} {P : mv_Post} {a nT p w : Nat} (p1 : oL sh a) (p2 : p < 6) (p3 : w < 2) (hT : M a 0 = nI nT) (hT6 : nT ≤ 6) (hk : ∀ t, t < 6 → ∃ k, k < 4 ∧ M (a + 1) t = nI k) (hQ : P (some (.int (stF M a p w nT))) sh M) :
    ∀ n t, t + n = nT → mr80 S P 5 [some (.ref a), some (.int (nI p)), some (.int (nI w)), some (.int (stF M a p w t)), some (.int (nI t))] [] sh M 0 0
  | 0, t, h => by
    obtain rfl : t = nT := by omega
    rw [e80_5]
    simp (disch := first | assumption | omega) only [e80_0, e80_1, e80_2, e80_3, e80_7, e80_8, e80_11, e80_14, e80_15, e80_16, e80_18, e80_21, e80_24, e80_25, e80_27, e80_28, e80_30, e80_31, e80_34, e80_35, e80_36, e80_39, e80_40, e80_41, e80_44, e80_47, e80_48, q_gv0, q_gvs, q_isI1, q_isA1, q_hs0, q_hsn, q_hsi, q_hsr, q_hss, q_inc1, List.set_cons_zero, List.set_cons_succ, ↓reduceIte, q_ss0, q_ssi, q_ssr, q_nr0, q_nr10, q_nr11, q_tlS, q_tlN, q_cl, q_let, q_lef, q_ltt, q_ltf, q_eqt, q_eqf, q_add, q_mul, Nat.reduceAdd, Nat.reduceLeDiff, Nat.reduceEqDiff, eq_self, Nat.zero_le, Nat.le_refl, not_false_eq_true, not_true_eq_false, true_and, and_true, and_self, if_true, if_false, p1.g0, hT]
    exact hQ
  | n + 1, t, h => by
    have ih := lp80 h58 h60 h65 p1 p2 p3 hT hT6 hk hQ n (t + 1) (by omega)
    have t6 : t < 6 := by omega
    have hkt := hk t t6
    unfold stF at ih
    rw [e80_5]
    by_cases c : M (a + 5) p >>> (nI t &&& 31) &&& nI 1 = nI 1
    · rw [if_pos c] at ih
      simp (disch := first | assumption | omega) only [e80_0, e80_1, e80_2, e80_3, e80_7, e80_8, e80_11, e80_14, e80_15, e80_16, e80_18, e80_21, e80_24, e80_25, e80_27, e80_28, e80_30, e80_31, e80_34, e80_35, e80_36, e80_39, e80_40, e80_41, e80_44, e80_47, e80_48, q_gv0, q_gvs, q_isI1, q_isA1, q_hs0, q_hsn, q_hsi, q_hsr, q_hss, q_inc1, List.set_cons_zero, List.set_cons_succ, ↓reduceIte, q_ss0, q_ssi, q_ssr, q_nr0, q_nr10, q_nr11, q_tlS, q_tlN, q_cl, q_let, q_lef, q_ltt, q_ltf, q_eqt, q_eqf, q_add, q_mul, Nat.reduceAdd, Nat.reduceLeDiff, Nat.reduceEqDiff, eq_self, Nat.zero_le, Nat.le_refl, not_false_eq_true, not_true_eq_false, true_and, and_true, and_self, if_true, if_false, p1.g0, p1.o, hT, cl58 h58, cl60 h60, cl65 h65, c]
      exact ih
    · rw [if_neg c] at ih
      simp (disch := first | assumption | omega) only [e80_0, e80_1, e80_2, e80_3, e80_7, e80_8, e80_11, e80_14, e80_15, e80_16, e80_18, e80_21, e80_24, e80_25, e80_27, e80_28, e80_30, e80_31, e80_34, e80_35, e80_36, e80_39, e80_40, e80_41, e80_44, e80_47, e80_48, q_gv0, q_gvs, q_isI1, q_isA1, q_hs0, q_hsn, q_hsi, q_hsr, q_hss, q_inc1, List.set_cons_zero, List.set_cons_succ, ↓reduceIte, q_ss0, q_ssi, q_ssr, q_nr0, q_nr10, q_nr11, q_tlS, q_tlN, q_cl, q_let, q_lef, q_ltt, q_ltf, q_eqt, q_eqf, q_add, q_mul, Nat.reduceAdd, Nat.reduceLeDiff, Nat.reduceEqDiff, eq_self, Nat.zero_le, Nat.le_refl, not_false_eq_true, not_true_eq_false, true_and, and_true, and_self, if_true, if_false, p1.g0, p1.o, hT, cl58 h58, cl60 h60, cl65 h65, c]
      exact ih
def sp80 : mv_Sp := fun As sh M Q => ∃ (a : Nat) (p : Nat) (w : Nat), As = [.ref a, .int (nI p), .int (nI w)] ∧ ((oL sh a) ∧ (p < 6) ∧ (w < 2) ∧ (∃ n, n ≤ 6 ∧ M a 0 = nI n) ∧ (∀ t, t < 6 → ∃ k, k < 4 ∧ M (a + 1) t = nI k)) ∧ Q (some (.int (stF M a p w (M a 0).toNatClampNeg))) (sh) (M)
theorem cl80 {S : Nat → mv_Sp} (hS : S 80 = sp80) {sh : mv_Shp} {M : mv_Mem} {a : Nat} {p : Nat} {w : Nat} (p1 : oL sh a) (p2 : p < 6) (p3 : w < 2) (p4 : ∃ n, n ≤ 6 ∧ M a 0 = nI n) (p5 : ∀ t, t < 6 → ∃ k, k < 4 ∧ M (a + 1) t = nI k) {K : mv_Kt} {pc : Nat} {L : mv_Loc} {st : List Value} {cc_ ss_ : Nat} : mv_kal S 80 [.ref a, .int (nI p), .int (nI w)] sh M K pc L st cc_ ss_ = K pc L ((some (.int (stF M a p w (M a 0).toNatClampNeg)) : Option Value).toList ++ st) (sh) (M) cc_ ss_ := by
  refine q_kal (fun F => q_cali (fun Q => ?_))
  rw [hS]
  constructor
  · rintro ⟨a', p', w', hE, ⟨zp1, zp2, zp3, zp4, zp5⟩, hQ⟩
    simp only [List.cons.injEq, Value.ref.injEq, Value.int.injEq, Value.long.injEq, and_true, true_and] at hE
    obtain ⟨rfl, e_p, e_w⟩ := hE
    have z_p := nI_inj e_p (by omega) (by omega)
    subst z_p
    have z_w := nI_inj e_w (by omega) (by omega)
    subst z_w
    exact hQ
  · intro hQ
    exact ⟨a, p, w, rfl, ⟨p1, p2, p3, p4, p5⟩, hQ⟩
theorem ct80 {S : Nat → mv_Sp} (h58 : S 58 = sp58) (h60 : S 60 = sp60) (h65 : S 65 = sp65) : ∀ As sh M P, sp80 As sh M P → (mv_al0 As).length ≤ 5 ∧ mr80 S P 0 (mv_ent As 5) [] sh M 0 0 := by
  rintro As sh M P ⟨a, p, w, rfl, ⟨p1, p2, p3, p4, p5⟩, hQ⟩
  refine ⟨Nat.le_of_ble_eq_true rfl, ?_⟩
  show mr80 S P 0 [some (.ref a), some (.int (nI p)), some (.int (nI w)), none, none] [] sh M 0 0
  obtain ⟨nT, h6, hT⟩ := p4
  rw [hT, q_cl (by omega)] at hQ
  simp (disch := first | assumption | omega) only [e80_0, e80_1, e80_2, e80_3, q_gv0, q_gvs, q_isI1, q_isA1, q_hs0, q_hsn, q_hsi, q_hsr, q_hss, q_inc1, List.set_cons_zero, List.set_cons_succ, ↓reduceIte, q_ss0, q_ssi, q_ssr, q_nr0, q_nr10, q_nr11, q_tlS, q_tlN, q_cl, q_let, q_lef, q_ltt, q_ltf, q_eqt, q_eqf, q_add, q_mul, Nat.reduceAdd, Nat.reduceLeDiff, Nat.reduceEqDiff, eq_self, Nat.zero_le, Nat.le_refl, not_false_eq_true, not_true_eq_false, true_and, and_true, and_self, if_true, if_false]
  exact lp80 h58 h60 h65 p1 p2 p3 hT h6 p5 hQ nT 0 (by omega)
/-- the first like tops of the number x -/
def alF (M : mv_Mem) (a : Nat) (x : Int32) : Nat → Int32
  | 0 => nI 0
  | t + 1 => alF M a x t ||| (M (a + 4) (t * 4 + (hlF x t).toNatClampNeg) <<< (nI (2 * t) &&& 31))
theorem lp88 {S : Nat → mv_Sp} (h65 : S 65 = sp65) {sh : mv_Shp} {M : mv_Mem} {P : mv_Post} {a nT : Nat} {x : Int32} (p1 : oL sh a) (hT : M a 0 = nI nT) (hT6 : nT ≤ 6) (hQ : P (some (.int (alF M a x nT))) sh M) :
    ∀ n t, t + n = nT → mr88 S P 4 [some (.ref a), some (.int x), some (.int (alF M a x t)), some (.int (nI t))] [] sh M 0 0
  | 0, t, h => by
    obtain rfl : t = nT := by omega
    rw [e88_4]
    simp (disch := first | assumption | omega) only [e88_0, e88_1, e88_2, e88_3, e88_5, e88_6, e88_9, e88_12, e88_13, e88_15, e88_18, e88_19, e88_20, e88_21, e88_24, e88_25, e88_26, e88_27, e88_28, e88_29, e88_30, e88_31, e88_32, e88_33, e88_34, e88_35, e88_36, e88_39, e88_40, e88_41, e88_44, e88_47, e88_48, q_gv0, q_gvs, q_isI1, q_isA1, q_hs0, q_hsn, q_hsi, q_hsr, q_hss, q_inc1, List.set_cons_zero, List.set_cons_succ, ↓reduceIte, q_ss0, q_ssi, q_ssr, q_nr0, q_nr10, q_nr11, q_tlS, q_tlN, q_cl, q_let, q_lef, q_ltt, q_ltf, q_eqt, q_eqf, q_add, q_mul, Nat.reduceAdd, Nat.reduceLeDiff, Nat.reduceEqDiff, eq_self, Nat.zero_le, Nat.le_refl, not_false_eq_true, not_true_eq_false, true_and, and_true, and_self, if_true, if_false, p1.g0, hT]
    exact hQ
  | n + 1, t, h => by
    obtain ⟨hh, h4, he⟩ := hlF_lt x t
    have ih := lp88 h65 p1 hT hT6 hQ n (t + 1) (by omega)
    unfold alF at ih
    rw [he, q_cl (by omega)] at ih
    have he : x >>> (nI (2 * t) &&& 31) &&& nI 3 = nI hh := he
    rw [e88_4]
    simp (disch := first | assumption | omega) only [e88_0, e88_1, e88_2, e88_3, e88_5, e88_6, e88_9, e88_12, e88_13, e88_15, e88_18, e88_19, e88_20, e88_21, e88_24, e88_25, e88_26, e88_27, e88_28, e88_29, e88_30, e88_31, e88_32, e88_33, e88_34, e88_35, e88_36, e88_39, e88_40, e88_41, e88_44, e88_47, e88_48, q_gv0, q_gvs, q_isI1, q_isA1, q_hs0, q_hsn, q_hsi, q_hsr, q_hss, q_inc1, List.set_cons_zero, List.set_cons_succ, ↓reduceIte, q_ss0, q_ssi, q_ssr, q_nr0, q_nr10, q_nr11, q_tlS, q_tlN, q_cl, q_let, q_lef, q_ltt, q_ltf, q_eqt, q_eqf, q_add, q_mul, Nat.reduceAdd, Nat.reduceLeDiff, Nat.reduceEqDiff, eq_self, Nat.zero_le, Nat.le_refl, not_false_eq_true, not_true_eq_false, true_and, and_true, and_self, if_true, if_false, p1.g0, p1.g7, p1.l4, p1.o, hT, he, cl65 h65]
    exact ih
def sp88 : mv_Sp := fun As sh M Q => ∃ (a : Nat) (x : Int32), As = [.ref a, .int x] ∧ ((oL sh a) ∧ (∃ n, n ≤ 6 ∧ M a 0 = nI n)) ∧ Q (some (.int (alF M a x (M a 0).toNatClampNeg))) (sh) (M)
theorem cl88 {S : Nat → mv_Sp} (hS : S 88 = sp88) {sh : mv_Shp} {M : mv_Mem} {a : Nat} {x : Int32} (p1 : oL sh a) (p2 : ∃ n, n ≤ 6 ∧ M a 0 = nI n) {K : mv_Kt} {pc : Nat} {L : mv_Loc} {st : List Value} {cc_ ss_ : Nat} : mv_kal S 88 [.ref a, .int x] sh M K pc L st cc_ ss_ = K pc L ((some (.int (alF M a x (M a 0).toNatClampNeg)) : Option Value).toList ++ st) (sh) (M) cc_ ss_ := by
  refine q_kal (fun F => q_cali (fun Q => ?_))
  rw [hS]
  constructor
  · rintro ⟨a', x', hE, ⟨zp1, zp2⟩, hQ⟩
    simp only [List.cons.injEq, Value.ref.injEq, Value.int.injEq, Value.long.injEq, and_true, true_and] at hE
    obtain ⟨rfl, rfl⟩ := hE
    exact hQ
  · intro hQ
    exact ⟨a, x, rfl, ⟨p1, p2⟩, hQ⟩
theorem ct88 {S : Nat → mv_Sp} (h65 : S 65 = sp65) : ∀ As sh M P, sp88 As sh M P → (mv_al0 As).length ≤ 4 ∧ mr88 S P 0 (mv_ent As 4) [] sh M 0 0 := by
  rintro As sh M P ⟨a, x, rfl, ⟨p1, p2⟩, hQ⟩
  refine ⟨Nat.le_of_ble_eq_true rfl, ?_⟩
  show mr88 S P 0 [some (.ref a), some (.int x), none, none] [] sh M 0 0
  obtain ⟨nT, h6, hT⟩ := p2
  rw [hT, q_cl (by omega)] at hQ
  simp (disch := first | assumption | omega) only [e88_0, e88_1, e88_2, e88_3, q_gv0, q_gvs, q_isI1, q_isA1, q_hs0, q_hsn, q_hsi, q_hsr, q_hss, q_inc1, List.set_cons_zero, List.set_cons_succ, ↓reduceIte, q_ss0, q_ssi, q_ssr, q_nr0, q_nr10, q_nr11, q_tlS, q_tlN, q_cl, q_let, q_lef, q_ltt, q_ltf, q_eqt, q_eqf, q_add, q_mul, Nat.reduceAdd, Nat.reduceLeDiff, Nat.reduceEqDiff, eq_self, Nat.zero_le, Nat.le_refl, not_false_eq_true, not_true_eq_false, true_and, and_true, and_self, if_true, if_false]
  exact lp88 h65 p1 hT h6 hQ nT 0 (by omega)
def sp72 : mv_Sp := fun As sh M Q => As = [.ref 0] ∧ ((oX sh)) ∧ Q (some (.int ((nI 1 <<< (M 3 1 &&& 31)) - nI 1))) (sh) (M)
theorem cl72 {S : Nat → mv_Sp} (hS : S 72 = sp72) {sh : mv_Shp} {M : mv_Mem}  (p1 : oX sh) {K : mv_Kt} {pc : Nat} {L : mv_Loc} {st : List Value} {cc_ ss_ : Nat} : mv_kal S 72 [.ref 0] sh M K pc L st cc_ ss_ = K pc L ((some (.int ((nI 1 <<< (M 3 1 &&& 31)) - nI 1)) : Option Value).toList ++ st) (sh) (M) cc_ ss_ := by
  refine q_kal (fun F => q_cali (fun Q => ?_))
  rw [hS]
  constructor
  · rintro ⟨hE, zp1, hQ⟩
    exact hQ
  · intro hQ
    exact ⟨rfl, p1, hQ⟩
theorem ct72 {S : Nat → mv_Sp}  : ∀ As sh M P, sp72 As sh M P → (mv_al0 As).length ≤ 1 ∧ mr72 S P 0 (mv_ent As 1) [] sh M 0 0 := by
  rintro As sh M P ⟨rfl, p1, hQ⟩
  refine ⟨Nat.le_of_ble_eq_true rfl, ?_⟩
  show mr72 S P 0 [some (.ref 0)] [] sh M 0 0
  have hl := p1.loom
  simp (disch := first | assumption | omega) only [e72_0, e72_1, e72_2, e72_5, e72_8, e72_9, e72_10, e72_11, q_gv0, q_gvs, q_isI1, q_isA1, q_hs0, q_hsn, q_hsi, q_hsr, q_hss, q_inc1, List.set_cons_zero, List.set_cons_succ, ↓reduceIte, q_ss0, q_ssi, q_ssr, q_nr0, q_nr10, q_nr11, q_tlS, q_tlN, q_cl, q_let, q_lef, q_ltt, q_ltf, q_eqt, q_eqf, q_add, q_mul, Nat.reduceAdd, Nat.reduceLeDiff, Nat.reduceEqDiff, eq_self, Nat.zero_le, Nat.le_refl, not_false_eq_true, not_true_eq_false, true_and, and_true, and_self, if_true, if_false, p1.g1, hl.g1]
  exact hQ
def sp91 : mv_Sp := fun As sh M Q => ∃ (x : Int32), As = [.ref 0, .int x] ∧ ((oX sh)) ∧ Q (some (.int (if x < nI 0 then nI 0 else if M 3 0 ≤ x then nI 0 else nI 1))) (sh) (M)
theorem cl91 {S : Nat → mv_Sp} (hS : S 91 = sp91) {sh : mv_Shp} {M : mv_Mem} {x : Int32} (p1 : oX sh) {K : mv_Kt} {pc : Nat} {L : mv_Loc} {st : List Value} {cc_ ss_ : Nat} : mv_kal S 91 [.ref 0, .int x] sh M K pc L st cc_ ss_ = K pc L ((some (.int (if x < nI 0 then nI 0 else if M 3 0 ≤ x then nI 0 else nI 1)) : Option Value).toList ++ st) (sh) (M) cc_ ss_ := by
  refine q_kal (fun F => q_cali (fun Q => ?_))
  rw [hS]
  constructor
  · rintro ⟨x', hE, zp1, hQ⟩
    simp only [List.cons.injEq, Value.ref.injEq, Value.int.injEq, Value.long.injEq, and_true, true_and] at hE
    subst hE
    exact hQ
  · intro hQ
    exact ⟨x, rfl, p1, hQ⟩
theorem ct91 {S : Nat → mv_Sp}  : ∀ As sh M P, sp91 As sh M P → (mv_al0 As).length ≤ 2 ∧ mr91 S P 0 (mv_ent As 2) [] sh M 0 0 := by
  rintro As sh M P ⟨x, rfl, p1, hQ⟩
  refine ⟨Nat.le_of_ble_eq_true rfl, ?_⟩
  show mr91 S P 0 [some (.ref 0), some (.int x)] [] sh M 0 0
  have hl := p1.loom
  by_cases c1 : x < nI 0
  · rw [if_pos c1] at hQ
    simp (disch := first | assumption | omega) only [e91_0, e91_1, e91_4, e91_5, e91_6, e91_9, e91_12, e91_15, e91_16, e91_19, e91_20, q_gv0, q_gvs, q_isI1, q_isA1, q_hs0, q_hsn, q_hsi, q_hsr, q_hss, q_inc1, List.set_cons_zero, List.set_cons_succ, ↓reduceIte, q_ss0, q_ssi, q_ssr, q_nr0, q_nr10, q_nr11, q_tlS, q_tlN, q_cl, q_let, q_lef, q_ltt, q_ltf, q_eqt, q_eqf, q_add, q_mul, Nat.reduceAdd, Nat.reduceLeDiff, Nat.reduceEqDiff, eq_self, Nat.zero_le, Nat.le_refl, not_false_eq_true, not_true_eq_false, true_and, and_true, and_self, if_true, if_false, p1.g1, hl.g0, c1]
    exact hQ
  rw [if_neg c1] at hQ
  by_cases c2 : M 3 0 ≤ x
  · rw [if_pos c2] at hQ
    simp (disch := first | assumption | omega) only [e91_0, e91_1, e91_4, e91_5, e91_6, e91_9, e91_12, e91_15, e91_16, e91_19, e91_20, q_gv0, q_gvs, q_isI1, q_isA1, q_hs0, q_hsn, q_hsi, q_hsr, q_hss, q_inc1, List.set_cons_zero, List.set_cons_succ, ↓reduceIte, q_ss0, q_ssi, q_ssr, q_nr0, q_nr10, q_nr11, q_tlS, q_tlN, q_cl, q_let, q_lef, q_ltt, q_ltf, q_eqt, q_eqf, q_add, q_mul, Nat.reduceAdd, Nat.reduceLeDiff, Nat.reduceEqDiff, eq_self, Nat.zero_le, Nat.le_refl, not_false_eq_true, not_true_eq_false, true_and, and_true, and_self, if_true, if_false, p1.g1, hl.g0, c1, c2]
    exact hQ
  rw [if_neg c2] at hQ
  simp (disch := first | assumption | omega) only [e91_0, e91_1, e91_4, e91_5, e91_6, e91_9, e91_12, e91_15, e91_16, e91_19, e91_20, q_gv0, q_gvs, q_isI1, q_isA1, q_hs0, q_hsn, q_hsi, q_hsr, q_hss, q_inc1, List.set_cons_zero, List.set_cons_succ, ↓reduceIte, q_ss0, q_ssi, q_ssr, q_nr0, q_nr10, q_nr11, q_tlS, q_tlN, q_cl, q_let, q_lef, q_ltt, q_ltf, q_eqt, q_eqf, q_add, q_mul, Nat.reduceAdd, Nat.reduceLeDiff, Nat.reduceEqDiff, eq_self, Nat.zero_le, Nat.le_refl, not_false_eq_true, not_true_eq_false, true_and, and_true, and_self, if_true, if_false, p1.g1, hl.g0, c1, c2]
  exact hQ
def sp107 : mv_Sp := fun As sh M Q => ∃ (x : Int32), As = [.ref 0, .int x] ∧ ((oX sh)) ∧ Q (some (.int (if x < nI 0 then nI 0 else if M 3 1 ≤ x then nI 0 else nI 1))) (sh) (M)
theorem cl107 {S : Nat → mv_Sp} (hS : S 107 = sp107) {sh : mv_Shp} {M : mv_Mem} {x : Int32} (p1 : oX sh) {K : mv_Kt} {pc : Nat} {L : mv_Loc} {st : List Value} {cc_ ss_ : Nat} : mv_kal S 107 [.ref 0, .int x] sh M K pc L st cc_ ss_ = K pc L ((some (.int (if x < nI 0 then nI 0 else if M 3 1 ≤ x then nI 0 else nI 1)) : Option Value).toList ++ st) (sh) (M) cc_ ss_ := by
  refine q_kal (fun F => q_cali (fun Q => ?_))
  rw [hS]
  constructor
  · rintro ⟨x', hE, zp1, hQ⟩
    simp only [List.cons.injEq, Value.ref.injEq, Value.int.injEq, Value.long.injEq, and_true, true_and] at hE
    subst hE
    exact hQ
  · intro hQ
    exact ⟨x, rfl, p1, hQ⟩
theorem ct107 {S : Nat → mv_Sp}  : ∀ As sh M P, sp107 As sh M P → (mv_al0 As).length ≤ 2 ∧ mr107 S P 0 (mv_ent As 2) [] sh M 0 0 := by
  rintro As sh M P ⟨x, rfl, p1, hQ⟩
  refine ⟨Nat.le_of_ble_eq_true rfl, ?_⟩
  show mr107 S P 0 [some (.ref 0), some (.int x)] [] sh M 0 0
  have hl := p1.loom
  by_cases c1 : x < nI 0
  · rw [if_pos c1] at hQ
    simp (disch := first | assumption | omega) only [e107_0, e107_1, e107_4, e107_5, e107_6, e107_9, e107_12, e107_15, e107_16, e107_19, e107_20, q_gv0, q_gvs, q_isI1, q_isA1, q_hs0, q_hsn, q_hsi, q_hsr, q_hss, q_inc1, List.set_cons_zero, List.set_cons_succ, ↓reduceIte, q_ss0, q_ssi, q_ssr, q_nr0, q_nr10, q_nr11, q_tlS, q_tlN, q_cl, q_let, q_lef, q_ltt, q_ltf, q_eqt, q_eqf, q_add, q_mul, Nat.reduceAdd, Nat.reduceLeDiff, Nat.reduceEqDiff, eq_self, Nat.zero_le, Nat.le_refl, not_false_eq_true, not_true_eq_false, true_and, and_true, and_self, if_true, if_false, p1.g1, hl.g1, c1]
    exact hQ
  rw [if_neg c1] at hQ
  by_cases c2 : M 3 1 ≤ x
  · rw [if_pos c2] at hQ
    simp (disch := first | assumption | omega) only [e107_0, e107_1, e107_4, e107_5, e107_6, e107_9, e107_12, e107_15, e107_16, e107_19, e107_20, q_gv0, q_gvs, q_isI1, q_isA1, q_hs0, q_hsn, q_hsi, q_hsr, q_hss, q_inc1, List.set_cons_zero, List.set_cons_succ, ↓reduceIte, q_ss0, q_ssi, q_ssr, q_nr0, q_nr10, q_nr11, q_tlS, q_tlN, q_cl, q_let, q_lef, q_ltt, q_ltf, q_eqt, q_eqf, q_add, q_mul, Nat.reduceAdd, Nat.reduceLeDiff, Nat.reduceEqDiff, eq_self, Nat.zero_le, Nat.le_refl, not_false_eq_true, not_true_eq_false, true_and, and_true, and_self, if_true, if_false, p1.g1, hl.g1, c1, c2]
    exact hQ
  rw [if_neg c2] at hQ
  simp (disch := first | assumption | omega) only [e107_0, e107_1, e107_4, e107_5, e107_6, e107_9, e107_12, e107_15, e107_16, e107_19, e107_20, q_gv0, q_gvs, q_isI1, q_isA1, q_hs0, q_hsn, q_hsi, q_hsr, q_hss, q_inc1, List.set_cons_zero, List.set_cons_succ, ↓reduceIte, q_ss0, q_ssi, q_ssr, q_nr0, q_nr10, q_nr11, q_tlS, q_tlN, q_cl, q_let, q_lef, q_ltt, q_ltf, q_eqt, q_eqf, q_add, q_mul, Nat.reduceAdd, Nat.reduceLeDiff, Nat.reduceEqDiff, eq_self, Nat.zero_le, Nat.le_refl, not_false_eq_true, not_true_eq_false, true_and, and_true, and_self, if_true, if_false, p1.g1, hl.g1, c1, c2]
  exact hQ
def sp108 : mv_Sp := fun As sh M Q => ∃ (x : Int32), As = [.int x] ∧ ((True)) ∧ Q (some (.int (if x = nI 0 then nI 1 else if x = nI 1 then nI 1 else nI 0))) (sh) (M)
theorem cl108 {S : Nat → mv_Sp} (hS : S 108 = sp108) {sh : mv_Shp} {M : mv_Mem} {x : Int32} (p1 : True) {K : mv_Kt} {pc : Nat} {L : mv_Loc} {st : List Value} {cc_ ss_ : Nat} : mv_kal S 108 [.int x] sh M K pc L st cc_ ss_ = K pc L ((some (.int (if x = nI 0 then nI 1 else if x = nI 1 then nI 1 else nI 0)) : Option Value).toList ++ st) (sh) (M) cc_ ss_ := by
  refine q_kal (fun F => q_cali (fun Q => ?_))
  rw [hS]
  constructor
  · rintro ⟨x', hE, zp1, hQ⟩
    simp only [List.cons.injEq, Value.ref.injEq, Value.int.injEq, Value.long.injEq, and_true, true_and] at hE
    subst hE
    exact hQ
  · intro hQ
    exact ⟨x, rfl, p1, hQ⟩
theorem ct108 {S : Nat → mv_Sp}  : ∀ As sh M P, sp108 As sh M P → (mv_al0 As).length ≤ 1 ∧ mr108 S P 0 (mv_ent As 1) [] sh M 0 0 := by
  rintro As sh M P ⟨x, rfl, p1, hQ⟩
  refine ⟨Nat.le_of_ble_eq_true rfl, ?_⟩
  show mr108 S P 0 [some (.int x)] [] sh M 0 0
  by_cases c1 : x = nI 0
  · rw [if_pos c1] at hQ
    simp (disch := first | assumption | omega) only [e108_0, e108_1, e108_4, e108_5, e108_6, e108_9, e108_10, e108_13, e108_14, q_gv0, q_gvs, q_isI1, q_isA1, q_hs0, q_hsn, q_hsi, q_hsr, q_hss, q_inc1, List.set_cons_zero, List.set_cons_succ, ↓reduceIte, q_ss0, q_ssi, q_ssr, q_nr0, q_nr10, q_nr11, q_tlS, q_tlN, q_cl, q_let, q_lef, q_ltt, q_ltf, q_eqt, q_eqf, q_add, q_mul, Nat.reduceAdd, Nat.reduceLeDiff, Nat.reduceEqDiff, eq_self, Nat.zero_le, Nat.le_refl, not_false_eq_true, not_true_eq_false, true_and, and_true, and_self, if_true, if_false, c1]
    exact hQ
  rw [if_neg c1] at hQ
  by_cases c2 : x = nI 1
  · rw [if_pos c2] at hQ
    simp (disch := first | assumption | omega) only [e108_0, e108_1, e108_4, e108_5, e108_6, e108_9, e108_10, e108_13, e108_14, q_gv0, q_gvs, q_isI1, q_isA1, q_hs0, q_hsn, q_hsi, q_hsr, q_hss, q_inc1, List.set_cons_zero, List.set_cons_succ, ↓reduceIte, q_ss0, q_ssi, q_ssr, q_nr0, q_nr10, q_nr11, q_tlS, q_tlN, q_cl, q_let, q_lef, q_ltt, q_ltf, q_eqt, q_eqf, q_add, q_mul, Nat.reduceAdd, Nat.reduceLeDiff, Nat.reduceEqDiff, eq_self, Nat.zero_le, Nat.le_refl, not_false_eq_true, not_true_eq_false, true_and, and_true, and_self, if_true, if_false, c1, c2]
    exact hQ
  rw [if_neg c2] at hQ
  simp (disch := first | assumption | omega) only [e108_0, e108_1, e108_4, e108_5, e108_6, e108_9, e108_10, e108_13, e108_14, q_gv0, q_gvs, q_isI1, q_isA1, q_hs0, q_hsn, q_hsi, q_hsr, q_hss, q_inc1, List.set_cons_zero, List.set_cons_succ, ↓reduceIte, q_ss0, q_ssi, q_ssr, q_nr0, q_nr10, q_nr11, q_tlS, q_tlN, q_cl, q_let, q_lef, q_ltt, q_ltf, q_eqt, q_eqf, q_add, q_mul, Nat.reduceAdd, Nat.reduceLeDiff, Nat.reduceEqDiff, eq_self, Nat.zero_le, Nat.le_refl, not_false_eq_true, not_true_eq_false, true_and, and_true, and_self, if_true, if_false, c1, c2]
  exact hQ
def sp105 : mv_Sp := fun As sh M Q => As = [.ref 0] ∧ ((oX sh)) ∧ Q (some (.int (M 0 11))) (sh) (mv_up M 0 11 (nI 0))
theorem cl105 {S : Nat → mv_Sp} (hS : S 105 = sp105) {sh : mv_Shp} {M : mv_Mem}  (p1 : oX sh) {K : mv_Kt} {pc : Nat} {L : mv_Loc} {st : List Value} {cc_ ss_ : Nat} : mv_kal S 105 [.ref 0] sh M K pc L st cc_ ss_ = K pc L ((some (.int (M 0 11)) : Option Value).toList ++ st) (sh) (mv_up M 0 11 (nI 0)) cc_ ss_ := by
  refine q_kal (fun F => q_cali (fun Q => ?_))
  rw [hS]
  constructor
  · rintro ⟨hE, zp1, hQ⟩
    exact hQ
  · intro hQ
    exact ⟨rfl, p1, hQ⟩
theorem ct105 {S : Nat → mv_Sp}  : ∀ As sh M P, sp105 As sh M P → (mv_al0 As).length ≤ 2 ∧ mr105 S P 0 (mv_ent As 2) [] sh M 0 0 := by
  rintro As sh M P ⟨rfl, p1, hQ⟩
  refine ⟨Nat.le_of_ble_eq_true rfl, ?_⟩
  show mr105 S P 0 [some (.ref 0), none] [] sh M 0 0
  simp (disch := first | assumption | omega) only [e105_0, e105_1, e105_4, e105_5, e105_6, e105_7, e105_10, e105_11, q_gv0, q_gvs, q_isI1, q_isA1, q_hs0, q_hsn, q_hsi, q_hsr, q_hss, q_inc1, List.set_cons_zero, List.set_cons_succ, ↓reduceIte, q_ss0, q_ssi, q_ssr, q_nr0, q_nr10, q_nr11, q_tlS, q_tlN, q_cl, q_let, q_lef, q_ltt, q_ltf, q_eqt, q_eqf, q_add, q_mul, Nat.reduceAdd, Nat.reduceLeDiff, Nat.reduceEqDiff, eq_self, Nat.zero_le, Nat.le_refl, not_false_eq_true, not_true_eq_false, true_and, and_true, and_self, if_true, if_false, p1.g11, p1.p11]
  exact hQ
theorem i32_c (x : Int32) : x < nI 0 ∨ ∃ k, k < 2147483648 ∧ x = nI k := by
  by_cases c : x < nI 0
  · exact Or.inl c
  · have h0 : (nI 0).toInt = 0 := by decide
    have h1 : 0 ≤ x.toInt := by
      rw [Int32.lt_iff_toInt_lt, h0] at c
      omega
    have h2 := Int32.toInt_lt x
    refine Or.inr ⟨x.toInt.toNat, by omega, ?_⟩
    have e := nI_toInt (n := x.toInt.toNat) (by omega)
    rw [← Int32.toInt_inj, e]
    omega
/-- back to a kept cloth -/
def sp76 : mv_Sp := fun As sh M Q => As = [.ref 0] ∧ ((oX sh) ∧ (∃ n, n < 3 ∧ M 0 9 = nI n) ∧ ((M 0 9 = nI 0 ∨ ∃ r, r < 25 ∧ M (50 + 3 * ((M 0 9).toNatClampNeg - 1)) 2 = nI r))) ∧ Q (some (.int (if M 0 9 = nI 0 then Int32.ofInt (-2) else nI ((M 0 9).toNatClampNeg - 1)))) (sh) (if M 0 9 = nI 0 then M else mv_up (cpM (mv_up M 0 9 (nI ((M 0 9).toNatClampNeg - 1))) 18 (50 + 3 * ((M 0 9).toNatClampNeg - 1))) 0 7 (nI 0))
theorem cl76 {S : Nat → mv_Sp} (hS : S 76 = sp76) {sh : mv_Shp} {M : mv_Mem}  (p1 : oX sh) (p2 : ∃ n, n < 3 ∧ M 0 9 = nI n) (p3 : (M 0 9 = nI 0 ∨ ∃ r, r < 25 ∧ M (50 + 3 * ((M 0 9).toNatClampNeg - 1)) 2 = nI r)) {K : mv_Kt} {pc : Nat} {L : mv_Loc} {st : List Value} {cc_ ss_ : Nat} : mv_kal S 76 [.ref 0] sh M K pc L st cc_ ss_ = K pc L ((some (.int (if M 0 9 = nI 0 then Int32.ofInt (-2) else nI ((M 0 9).toNatClampNeg - 1))) : Option Value).toList ++ st) (sh) (if M 0 9 = nI 0 then M else mv_up (cpM (mv_up M 0 9 (nI ((M 0 9).toNatClampNeg - 1))) 18 (50 + 3 * ((M 0 9).toNatClampNeg - 1))) 0 7 (nI 0)) cc_ ss_ := by
  refine q_kal (fun F => q_cali (fun Q => ?_))
  rw [hS]
  constructor
  · rintro ⟨hE, ⟨zp1, zp2, zp3⟩, hQ⟩
    exact hQ
  · intro hQ
    exact ⟨rfl, ⟨p1, p2, p3⟩, hQ⟩
theorem ct76 {S : Nat → mv_Sp} (h52 : S 52 = sp52) : ∀ As sh M P, sp76 As sh M P → (mv_al0 As).length ≤ 1 ∧ mr76 S P 0 (mv_ent As 1) [] sh M 0 0 := by
  rintro As sh M P ⟨rfl, ⟨p1, p2, p3⟩, hQ⟩
  refine ⟨Nat.le_of_ble_eq_true rfl, ?_⟩
  show mr76 S P 0 [some (.ref 0)] [] sh M 0 0
  obtain ⟨n, hn, hN⟩ := id p2
  rcases n with _ | m
  · rw [if_pos hN, if_pos hN] at hQ
    simp (disch := first | assumption | omega) only [e76_0, e76_1, e76_4, e76_7, e76_9, e76_10, e76_11, e76_11r, e76_12, e76_15, e76_16, e76_17, e76_20, e76_21, e76_24, e76_25, e76_28, e76_29, e76_32, e76_33, e76_36, e76_37, e76_38, e76_41, e76_42, e76_45, q_gv0, q_gvs, q_isI1, q_isA1, q_hs0, q_hsn, q_hsi, q_hsr, q_hss, q_inc1, List.set_cons_zero, List.set_cons_succ, ↓reduceIte, q_ss0, q_ssi, q_ssr, q_nr0, q_nr10, q_nr11, q_tlS, q_tlN, q_cl, q_let, q_lef, q_ltt, q_ltf, q_eqt, q_eqf, q_add, q_mul, Nat.reduceAdd, Nat.reduceLeDiff, Nat.reduceEqDiff, eq_self, Nat.zero_le, Nat.le_refl, not_false_eq_true, not_true_eq_false, true_and, and_true, and_self, if_true, if_false, p1.g9, hN]
    exact hQ
  · have n0 : ¬ nI (m + 1) = nI 0 := fun z => by have := (nI_eq (by omega) (by omega)).mp z; omega
    rw [hN, if_neg n0, if_neg n0, q_cl (by omega), Nat.add_sub_cancel] at hQ
    rcases p3 with p3 | p3
    · exact absurd (hN.symm.trans p3) n0
    rw [hN, q_cl (by omega), Nat.add_sub_cancel] at p3
    have m2 : m < 2 := by omega
    have hk := p1.kep m2
    have hc := p1.cloth
    have p4 : ∃ r, r < 25 ∧ mv_up M 0 9 (nI m) (50 + 3 * m) 2 = nI r := by rw [q_upO (by omega)]; exact p3
    have ec : ∀ {N : mv_Mem}, cpM N 18 (50 + 3 * m) 0 = N 0 := cpM_out (by omega) (by omega) (by omega)
    simp (disch := first | assumption | omega) only [e76_0, e76_1, e76_4, e76_7, e76_9, e76_10, e76_11, e76_11r, e76_12, e76_15, e76_16, e76_17, e76_20, e76_21, e76_24, e76_25, e76_28, e76_29, e76_32, e76_33, e76_36, e76_37, e76_38, e76_41, e76_42, e76_45, q_gv0, q_gvs, q_isI1, q_isA1, q_hs0, q_hsn, q_hsi, q_hsr, q_hss, q_inc1, List.set_cons_zero, List.set_cons_succ, ↓reduceIte, q_ss0, q_ssi, q_ssr, q_nr0, q_nr10, q_nr11, q_tlS, q_tlN, q_cl, q_let, q_lef, q_ltt, q_ltf, q_eqt, q_eqf, q_add, q_mul, Nat.reduceAdd, Nat.reduceLeDiff, Nat.reduceEqDiff, eq_self, Nat.zero_le, Nat.le_refl, not_false_eq_true, not_true_eq_false, true_and, and_true, and_self, if_true, if_false, e76_11r, p1.g9, p1.p9, p1.g3, p1.g8, p1.p7, p1.k, hc.o, hN, n0, cl52 h52, q_upS, ec, q_upN, q_sub, Nat.add_sub_cancel]
    exact hQ

def sp119 : mv_Sp := fun As sh M Q => ∃ (x : Int32), As = [.ref 0, .int x] ∧ ((oX sh) ∧ (∃ n, n ≤ 6 ∧ M 3 1 = nI n)) ∧ Q (some (.int (if x < nI 0 then Int32.ofInt (-1) else if M 3 1 ≤ x then Int32.ofInt (-1) else M 8 x.toNatClampNeg))) (sh) (M)
theorem cl119 {S : Nat → mv_Sp} (hS : S 119 = sp119) {sh : mv_Shp} {M : mv_Mem} {x : Int32} (p1 : oX sh) (p2 : ∃ n, n ≤ 6 ∧ M 3 1 = nI n) {K : mv_Kt} {pc : Nat} {L : mv_Loc} {st : List Value} {cc_ ss_ : Nat} : mv_kal S 119 [.ref 0, .int x] sh M K pc L st cc_ ss_ = K pc L ((some (.int (if x < nI 0 then Int32.ofInt (-1) else if M 3 1 ≤ x then Int32.ofInt (-1) else M 8 x.toNatClampNeg)) : Option Value).toList ++ st) (sh) (M) cc_ ss_ := by
  refine q_kal (fun F => q_cali (fun Q => ?_))
  rw [hS]
  constructor
  · rintro ⟨x', hE, ⟨zp1, zp2⟩, hQ⟩
    simp only [List.cons.injEq, Value.ref.injEq, Value.int.injEq, Value.long.injEq, and_true, true_and] at hE
    subst hE
    exact hQ
  · intro hQ
    exact ⟨x, rfl, ⟨p1, p2⟩, hQ⟩
theorem ct119 {S : Nat → mv_Sp} (h57 : S 57 = sp57) (h107 : S 107 = sp107) : ∀ As sh M P, sp119 As sh M P → (mv_al0 As).length ≤ 2 ∧ mr119 S P 0 (mv_ent As 2) [] sh M 0 0 := by
  rintro As sh M P ⟨x, rfl, ⟨p1, p2⟩, hQ⟩
  refine ⟨Nat.le_of_ble_eq_true rfl, ?_⟩
  show mr119 S P 0 [some (.ref 0), some (.int x)] [] sh M 0 0
  have hl := p1.loom
  obtain ⟨n, hn, hN⟩ := id p2
  rcases i32_c x with c1 | ⟨k, hk, rfl⟩
  · rw [if_pos c1] at hQ
    simp (disch := first | assumption | omega) only [e119_0, e119_1, e119_2, e119_5, e119_8, e119_9, e119_12, e119_13, e119_16, e119_19, e119_20, q_gv0, q_gvs, q_isI1, q_isA1, q_hs0, q_hsn, q_hsi, q_hsr, q_hss, q_inc1, List.set_cons_zero, List.set_cons_succ, ↓reduceIte, q_ss0, q_ssi, q_ssr, q_nr0, q_nr10, q_nr11, q_tlS, q_tlN, q_cl, q_let, q_lef, q_ltt, q_ltf, q_eqt, q_eqf, q_add, q_mul, Nat.reduceAdd, Nat.reduceLeDiff, Nat.reduceEqDiff, eq_self, Nat.zero_le, Nat.le_refl, not_false_eq_true, not_true_eq_false, true_and, and_true, and_self, if_true, if_false, p1.o, cl107 h107, c1]
    exact hQ
  · have c1 : (nI k < nI 0) = False := q_ltf (by omega) hk
    simp only [c1, if_false] at hQ
    by_cases c2 : n ≤ k
    · have c3 : (nI n ≤ nI k) = True := q_let c2 hk
      simp only [hN, c3, if_true] at hQ
      simp (disch := first | assumption | omega) only [e119_0, e119_1, e119_2, e119_5, e119_8, e119_9, e119_12, e119_13, e119_16, e119_19, e119_20, q_gv0, q_gvs, q_isI1, q_isA1, q_hs0, q_hsn, q_hsi, q_hsr, q_hss, q_inc1, List.set_cons_zero, List.set_cons_succ, ↓reduceIte, q_ss0, q_ssi, q_ssr, q_nr0, q_nr10, q_nr11, q_tlS, q_tlN, q_cl, q_let, q_lef, q_ltt, q_ltf, q_eqt, q_eqf, q_add, q_mul, Nat.reduceAdd, Nat.reduceLeDiff, Nat.reduceEqDiff, eq_self, Nat.zero_le, Nat.le_refl, not_false_eq_true, not_true_eq_false, true_and, and_true, and_self, if_true, if_false, p1.o, cl107 h107, c1, hN, c3]
      exact hQ
    · have c3 : (nI n ≤ nI k) = False := q_lef (by omega) (by omega)
      simp only [hN, c3, if_false, q_cl hk] at hQ
      simp (disch := first | assumption | omega) only [e119_0, e119_1, e119_2, e119_5, e119_8, e119_9, e119_12, e119_13, e119_16, e119_19, e119_20, q_gv0, q_gvs, q_isI1, q_isA1, q_hs0, q_hsn, q_hsi, q_hsr, q_hss, q_inc1, List.set_cons_zero, List.set_cons_succ, ↓reduceIte, q_ss0, q_ssi, q_ssr, q_nr0, q_nr10, q_nr11, q_tlS, q_tlN, q_cl, q_let, q_lef, q_ltt, q_ltf, q_eqt, q_eqf, q_add, q_mul, Nat.reduceAdd, Nat.reduceLeDiff, Nat.reduceEqDiff, eq_self, Nat.zero_le, Nat.le_refl, not_false_eq_true, not_true_eq_false, true_and, and_true, and_self, if_true, if_false, p1.o, p1.g1, hl.o, cl57 h57, cl107 h107, c1, hN, c3]
      exact hQ
def sp97 : mv_Sp := fun As sh M Q => ∃ (x : Int32), As = [.ref 0, .int x] ∧ ((oX sh) ∧ (∃ n, n ≤ 8 ∧ M 3 2 = nI n) ∧ (∀ t, t < 8 → ∃ q w, q < 6 ∧ w < 2 ∧ M 9 t = nI (10 * q + w))) ∧ Q (some (.int (if x < nI 0 then Int32.ofInt (-1) else if M 3 2 ≤ x then Int32.ofInt (-4) else M 9 x.toNatClampNeg))) (sh) (M)
theorem cl97 {S : Nat → mv_Sp} (hS : S 97 = sp97) {sh : mv_Shp} {M : mv_Mem} {x : Int32} (p1 : oX sh) (p2 : ∃ n, n ≤ 8 ∧ M 3 2 = nI n) (p3 : ∀ t, t < 8 → ∃ q w, q < 6 ∧ w < 2 ∧ M 9 t = nI (10 * q + w)) {K : mv_Kt} {pc : Nat} {L : mv_Loc} {st : List Value} {cc_ ss_ : Nat} : mv_kal S 97 [.ref 0, .int x] sh M K pc L st cc_ ss_ = K pc L ((some (.int (if x < nI 0 then Int32.ofInt (-1) else if M 3 2 ≤ x then Int32.ofInt (-4) else M 9 x.toNatClampNeg)) : Option Value).toList ++ st) (sh) (M) cc_ ss_ := by
  refine q_kal (fun F => q_cali (fun Q => ?_))
  rw [hS]
  constructor
  · rintro ⟨x', hE, ⟨zp1, zp2, zp3⟩, hQ⟩
    simp only [List.cons.injEq, Value.ref.injEq, Value.int.injEq, Value.long.injEq, and_true, true_and] at hE
    subst hE
    exact hQ
  · intro hQ
    exact ⟨x, rfl, ⟨p1, p2, p3⟩, hQ⟩
theorem ct97 {S : Nat → mv_Sp} (h54 : S 54 = sp54) : ∀ As sh M P, sp97 As sh M P → (mv_al0 As).length ≤ 2 ∧ mr97 S P 0 (mv_ent As 2) [] sh M 0 0 := by
  rintro As sh M P ⟨x, rfl, ⟨p1, p2, p3⟩, hQ⟩
  refine ⟨Nat.le_of_ble_eq_true rfl, ?_⟩
  show mr97 S P 0 [some (.ref 0), some (.int x)] [] sh M 0 0
  have hl := p1.loom
  obtain ⟨n, hn, hN⟩ := id p2
  rcases i32_c x with c1 | ⟨k, hk, rfl⟩
  · rw [if_pos c1] at hQ
    have c0 : (nI 0 ≤ x) = False := eq_false (Int32.not_le.mpr c1)
    simp (disch := first | assumption | omega) only [e97_0, e97_1, e97_4, e97_5, e97_6, e97_7, e97_8, e97_11, e97_14, e97_17, e97_18, e97_21, e97_22, e97_25, e97_28, e97_30, q_gv0, q_gvs, q_isI1, q_isA1, q_hs0, q_hsn, q_hsi, q_hsr, q_hss, q_inc1, List.set_cons_zero, List.set_cons_succ, ↓reduceIte, q_ss0, q_ssi, q_ssr, q_nr0, q_nr10, q_nr11, q_tlS, q_tlN, q_cl, q_let, q_lef, q_ltt, q_ltf, q_eqt, q_eqf, q_add, q_mul, Nat.reduceAdd, Nat.reduceLeDiff, Nat.reduceEqDiff, eq_self, Nat.zero_le, Nat.le_refl, not_false_eq_true, not_true_eq_false, true_and, and_true, and_self, if_true, if_false, c0]
    exact hQ
  · have c1 : (nI k < nI 0) = False := q_ltf (by omega) hk
    simp only [c1, if_false] at hQ
    by_cases c2 : n ≤ k
    · have c3 : (nI n ≤ nI k) = True := q_let c2 hk
      simp only [hN, c3, if_true] at hQ
      simp (disch := first | assumption | omega) only [e97_0, e97_1, e97_4, e97_5, e97_6, e97_7, e97_8, e97_11, e97_14, e97_17, e97_18, e97_21, e97_22, e97_25, e97_28, e97_30, q_gv0, q_gvs, q_isI1, q_isA1, q_hs0, q_hsn, q_hsi, q_hsr, q_hss, q_inc1, List.set_cons_zero, List.set_cons_succ, ↓reduceIte, q_ss0, q_ssi, q_ssr, q_nr0, q_nr10, q_nr11, q_tlS, q_tlN, q_cl, q_let, q_lef, q_ltt, q_ltf, q_eqt, q_eqf, q_add, q_mul, Nat.reduceAdd, Nat.reduceLeDiff, Nat.reduceEqDiff, eq_self, Nat.zero_le, Nat.le_refl, not_false_eq_true, not_true_eq_false, true_and, and_true, and_self, if_true, if_false, p1.g1, hl.g2, hN]
      exact hQ
    · have c3 : (nI n ≤ nI k) = False := q_lef (by omega) (by omega)
      simp only [hN, c3, if_false, q_cl hk] at hQ
      simp (disch := first | assumption | omega) only [e97_0, e97_1, e97_4, e97_5, e97_6, e97_7, e97_8, e97_11, e97_14, e97_17, e97_18, e97_21, e97_22, e97_25, e97_28, e97_30, q_gv0, q_gvs, q_isI1, q_isA1, q_hs0, q_hsn, q_hsi, q_hsr, q_hss, q_inc1, List.set_cons_zero, List.set_cons_succ, ↓reduceIte, q_ss0, q_ssi, q_ssr, q_nr0, q_nr10, q_nr11, q_tlS, q_tlN, q_cl, q_let, q_lef, q_ltt, q_ltf, q_eqt, q_eqf, q_add, q_mul, Nat.reduceAdd, Nat.reduceLeDiff, Nat.reduceEqDiff, eq_self, Nat.zero_le, Nat.le_refl, not_false_eq_true, not_true_eq_false, true_and, and_true, and_self, if_true, if_false, p1.g1, hl.g2, hl.o, hN, cl54 h54]
      exact hQ
def sp106 : mv_Sp := fun As sh M Q => ∃ (x : Int32) (y : Int32), As = [.ref 0, .int x, .int y] ∧ ((oX sh) ∧ (∃ n, n ≤ 6 ∧ M 3 0 = nI n)) ∧ Q (some (.int (if x < nI 0 then Int32.ofInt (-1) else if M 3 0 ≤ x then Int32.ofInt (-1) else if y < nI 0 then Int32.ofInt (-1) else if nI 4 ≤ y then Int32.ofInt (-1) else M 6 (x.toNatClampNeg * 4 + y.toNatClampNeg)))) (sh) (M)
theorem cl106 {S : Nat → mv_Sp} (hS : S 106 = sp106) {sh : mv_Shp} {M : mv_Mem} {x : Int32} {y : Int32} (p1 : oX sh) (p2 : ∃ n, n ≤ 6 ∧ M 3 0 = nI n) {K : mv_Kt} {pc : Nat} {L : mv_Loc} {st : List Value} {cc_ ss_ : Nat} : mv_kal S 106 [.ref 0, .int x, .int y] sh M K pc L st cc_ ss_ = K pc L ((some (.int (if x < nI 0 then Int32.ofInt (-1) else if M 3 0 ≤ x then Int32.ofInt (-1) else if y < nI 0 then Int32.ofInt (-1) else if nI 4 ≤ y then Int32.ofInt (-1) else M 6 (x.toNatClampNeg * 4 + y.toNatClampNeg))) : Option Value).toList ++ st) (sh) (M) cc_ ss_ := by
  refine q_kal (fun F => q_cali (fun Q => ?_))
  rw [hS]
  constructor
  · rintro ⟨x', y', hE, ⟨zp1, zp2⟩, hQ⟩
    simp only [List.cons.injEq, Value.ref.injEq, Value.int.injEq, Value.long.injEq, and_true, true_and] at hE
    obtain ⟨rfl, rfl⟩ := hE
    exact hQ
  · intro hQ
    exact ⟨x, y, rfl, ⟨p1, p2⟩, hQ⟩
theorem ct106 {S : Nat → mv_Sp} (h29 : S 29 = sp29) (h91 : S 91 = sp91) : ∀ As sh M P, sp106 As sh M P → (mv_al0 As).length ≤ 3 ∧ mr106 S P 0 (mv_ent As 3) [] sh M 0 0 := by
  rintro As sh M P ⟨x, y, rfl, ⟨p1, p2⟩, hQ⟩
  refine ⟨Nat.le_of_ble_eq_true rfl, ?_⟩
  show mr106 S P 0 [some (.ref 0), some (.int x), some (.int y)] [] sh M 0 0
  have hl := p1.loom
  obtain ⟨n, hn, hN⟩ := id p2
  rcases i32_c x with c1 | ⟨k, hk, rfl⟩
  · rw [if_pos c1] at hQ
    simp (disch := first | assumption | omega) only [e106_0, e106_1, e106_2, e106_5, e106_8, e106_9, e106_12, e106_13, e106_14, e106_17, e106_18, e106_19, e106_20, e106_23, e106_24, e106_25, e106_28, q_gv0, q_gvs, q_isI1, q_isA1, q_hs0, q_hsn, q_hsi, q_hsr, q_hss, q_inc1, List.set_cons_zero, List.set_cons_succ, ↓reduceIte, q_ss0, q_ssi, q_ssr, q_nr0, q_nr10, q_nr11, q_tlS, q_tlN, q_cl, q_let, q_lef, q_ltt, q_ltf, q_eqt, q_eqf, q_add, q_mul, Nat.reduceAdd, Nat.reduceLeDiff, Nat.reduceEqDiff, eq_self, Nat.zero_le, Nat.le_refl, not_false_eq_true, not_true_eq_false, true_and, and_true, and_self, if_true, if_false, p1.o, cl91 h91, c1]
    exact hQ
  have c1 : (nI k < nI 0) = False := q_ltf (by omega) hk
  simp only [c1, if_false] at hQ
  by_cases c2 : n ≤ k
  · have c3 : (nI n ≤ nI k) = True := q_let c2 hk
    simp only [hN, c3, if_true] at hQ
    simp (disch := first | assumption | omega) only [e106_0, e106_1, e106_2, e106_5, e106_8, e106_9, e106_12, e106_13, e106_14, e106_17, e106_18, e106_19, e106_20, e106_23, e106_24, e106_25, e106_28, q_gv0, q_gvs, q_isI1, q_isA1, q_hs0, q_hsn, q_hsi, q_hsr, q_hss, q_inc1, List.set_cons_zero, List.set_cons_succ, ↓reduceIte, q_ss0, q_ssi, q_ssr, q_nr0, q_nr10, q_nr11, q_tlS, q_tlN, q_cl, q_let, q_lef, q_ltt, q_ltf, q_eqt, q_eqf, q_add, q_mul, Nat.reduceAdd, Nat.reduceLeDiff, Nat.reduceEqDiff, eq_self, Nat.zero_le, Nat.le_refl, not_false_eq_true, not_true_eq_false, true_and, and_true, and_self, if_true, if_false, p1.o, cl91 h91, c1, hN, c3]
    exact hQ
  have c3 : (nI n ≤ nI k) = False := q_lef (by omega) (by omega)
  simp only [hN, c3, if_false, q_cl hk] at hQ
  rcases i32_c y with d1 | ⟨j, hj, rfl⟩
  · rw [if_pos d1] at hQ
    simp (disch := first | assumption | omega) only [e106_0, e106_1, e106_2, e106_5, e106_8, e106_9, e106_12, e106_13, e106_14, e106_17, e106_18, e106_19, e106_20, e106_23, e106_24, e106_25, e106_28, q_gv0, q_gvs, q_isI1, q_isA1, q_hs0, q_hsn, q_hsi, q_hsr, q_hss, q_inc1, List.set_cons_zero, List.set_cons_succ, ↓reduceIte, q_ss0, q_ssi, q_ssr, q_nr0, q_nr10, q_nr11, q_tlS, q_tlN, q_cl, q_let, q_lef, q_ltt, q_ltf, q_eqt, q_eqf, q_add, q_mul, Nat.reduceAdd, Nat.reduceLeDiff, Nat.reduceEqDiff, eq_self, Nat.zero_le, Nat.le_refl, not_false_eq_true, not_true_eq_false, true_and, and_true, and_self, if_true, if_false, p1.o, cl91 h91, c1, hN, c3, d1]
    exact hQ
  have d1 : (nI j < nI 0) = False := q_ltf (by omega) hj
  simp only [d1, if_false] at hQ
  by_cases d2 : 4 ≤ j
  · have d3 : (nI 4 ≤ nI j) = True := q_let d2 hj
    have d4 : (nI j < nI 4) = False := q_ltf d2 hj
    simp only [d3, if_true] at hQ
    simp (disch := first | assumption | omega) only [e106_0, e106_1, e106_2, e106_5, e106_8, e106_9, e106_12, e106_13, e106_14, e106_17, e106_18, e106_19, e106_20, e106_23, e106_24, e106_25, e106_28, q_gv0, q_gvs, q_isI1, q_isA1, q_hs0, q_hsn, q_hsi, q_hsr, q_hss, q_inc1, List.set_cons_zero, List.set_cons_succ, ↓reduceIte, q_ss0, q_ssi, q_ssr, q_nr0, q_nr10, q_nr11, q_tlS, q_tlN, q_cl, q_let, q_lef, q_ltt, q_ltf, q_eqt, q_eqf, q_add, q_mul, Nat.reduceAdd, Nat.reduceLeDiff, Nat.reduceEqDiff, eq_self, Nat.zero_le, Nat.le_refl, not_false_eq_true, not_true_eq_false, true_and, and_true, and_self, if_true, if_false, p1.o, cl91 h91, c1, hN, c3, d1, d4]
    exact hQ
  have d3 : (nI 4 ≤ nI j) = False := q_lef (by omega) (by omega)
  have d4 : (nI j < nI 4) = True := q_ltt (by omega) (by omega)
  simp only [d3, if_false, q_cl hj] at hQ
  simp (disch := first | assumption | omega) only [e106_0, e106_1, e106_2, e106_5, e106_8, e106_9, e106_12, e106_13, e106_14, e106_17, e106_18, e106_19, e106_20, e106_23, e106_24, e106_25, e106_28, q_gv0, q_gvs, q_isI1, q_isA1, q_hs0, q_hsn, q_hsi, q_hsr, q_hss, q_inc1, List.set_cons_zero, List.set_cons_succ, ↓reduceIte, q_ss0, q_ssi, q_ssr, q_nr0, q_nr10, q_nr11, q_tlS, q_tlN, q_cl, q_let, q_lef, q_ltt, q_ltf, q_eqt, q_eqf, q_add, q_mul, Nat.reduceAdd, Nat.reduceLeDiff, Nat.reduceEqDiff, eq_self, Nat.zero_le, Nat.le_refl, not_false_eq_true, not_true_eq_false, true_and, and_true, and_self, if_true, if_false, p1.o, p1.g1, hl.o, cl91 h91, cl29 h29, c1, hN, c3, d1, d4]
  exact hQ
def sp123 : mv_Sp := fun As sh M Q => ∃ (x : Int32) (y : Int32), As = [.ref 0, .int x, .int y] ∧ ((oX sh) ∧ (∃ n, n < 25 ∧ M 18 2 = nI n)) ∧ Q (some (.int (if x < nI 0 then Int32.ofInt (-1) else if y < nI 0 then Int32.ofInt (-1) else if nI 1 < y then Int32.ofInt (-1) else if M 18 2 ≤ x then Int32.ofInt (-4) else if y = nI 0 then M 20 (x.toNatClampNeg * 32 + 0) else M 20 (x.toNatClampNeg * 32 + 1)))) (sh) (M)
theorem cl123 {S : Nat → mv_Sp} (hS : S 123 = sp123) {sh : mv_Shp} {M : mv_Mem} {x : Int32} {y : Int32} (p1 : oX sh) (p2 : ∃ n, n < 25 ∧ M 18 2 = nI n) {K : mv_Kt} {pc : Nat} {L : mv_Loc} {st : List Value} {cc_ ss_ : Nat} : mv_kal S 123 [.ref 0, .int x, .int y] sh M K pc L st cc_ ss_ = K pc L ((some (.int (if x < nI 0 then Int32.ofInt (-1) else if y < nI 0 then Int32.ofInt (-1) else if nI 1 < y then Int32.ofInt (-1) else if M 18 2 ≤ x then Int32.ofInt (-4) else if y = nI 0 then M 20 (x.toNatClampNeg * 32 + 0) else M 20 (x.toNatClampNeg * 32 + 1))) : Option Value).toList ++ st) (sh) (M) cc_ ss_ := by
  refine q_kal (fun F => q_cali (fun Q => ?_))
  rw [hS]
  constructor
  · rintro ⟨x', y', hE, ⟨zp1, zp2⟩, hQ⟩
    simp only [List.cons.injEq, Value.ref.injEq, Value.int.injEq, Value.long.injEq, and_true, true_and] at hE
    obtain ⟨rfl, rfl⟩ := hE
    exact hQ
  · intro hQ
    exact ⟨x, y, rfl, ⟨p1, p2⟩, hQ⟩
theorem ct123 {S : Nat → mv_Sp} (h121 : S 121 = sp121) (h122 : S 122 = sp122) : ∀ As sh M P, sp123 As sh M P → (mv_al0 As).length ≤ 3 ∧ mr123 S P 0 (mv_ent As 3) [] sh M 0 0 := by
  rintro As sh M P ⟨x, y, rfl, ⟨p1, p2⟩, hQ⟩
  refine ⟨Nat.le_of_ble_eq_true rfl, ?_⟩
  show mr123 S P 0 [some (.ref 0), some (.int x), some (.int y)] [] sh M 0 0
  have hc := p1.cloth
  obtain ⟨n, hn, hN⟩ := id p2
  rcases i32_c x with c1 | ⟨k, hk, rfl⟩
  · rw [if_pos c1] at hQ
    simp (disch := first | assumption | omega) only [e123_0, e123_1, e123_4, e123_5, e123_8, e123_9, e123_10, e123_13, e123_14, e123_15, e123_16, e123_17, e123_20, e123_23, e123_26, e123_28, e123_29, e123_30, e123_33, e123_34, e123_37, e123_38, e123_41, e123_44, e123_45, e123_48, e123_49, e123_52, q_gv0, q_gvs, q_isI1, q_isA1, q_hs0, q_hsn, q_hsi, q_hsr, q_hss, q_inc1, List.set_cons_zero, List.set_cons_succ, ↓reduceIte, q_ss0, q_ssi, q_ssr, q_nr0, q_nr10, q_nr11, q_tlS, q_tlN, q_cl, q_let, q_lef, q_ltt, q_ltf, q_eqt, q_eqf, q_add, q_mul, Nat.reduceAdd, Nat.reduceLeDiff, Nat.reduceEqDiff, eq_self, Nat.zero_le, Nat.le_refl, not_false_eq_true, not_true_eq_false, true_and, and_true, and_self, if_true, if_false, c1]
    exact hQ
  have c1 : (nI k < nI 0) = False := q_ltf (by omega) hk
  simp only [c1, if_false] at hQ
  by_cases d1 : y < nI 0
  · rw [if_pos d1] at hQ
    simp (disch := first | assumption | omega) only [e123_0, e123_1, e123_4, e123_5, e123_8, e123_9, e123_10, e123_13, e123_14, e123_15, e123_16, e123_17, e123_20, e123_23, e123_26, e123_28, e123_29, e123_30, e123_33, e123_34, e123_37, e123_38, e123_41, e123_44, e123_45, e123_48, e123_49, e123_52, q_gv0, q_gvs, q_isI1, q_isA1, q_hs0, q_hsn, q_hsi, q_hsr, q_hss, q_inc1, List.set_cons_zero, List.set_cons_succ, ↓reduceIte, q_ss0, q_ssi, q_ssr, q_nr0, q_nr10, q_nr11, q_tlS, q_tlN, q_cl, q_let, q_lef, q_ltt, q_ltf, q_eqt, q_eqf, q_add, q_mul, Nat.reduceAdd, Nat.reduceLeDiff, Nat.reduceEqDiff, eq_self, Nat.zero_le, Nat.le_refl, not_false_eq_true, not_true_eq_false, true_and, and_true, and_self, if_true, if_false, c1, d1]
    exact hQ
  rw [if_neg d1] at hQ
  by_cases d2 : nI 1 < y
  · rw [if_pos d2] at hQ
    have d3 : (y ≤ nI 1) = False := eq_false (Int32.not_le.mpr d2)
    simp (disch := first | assumption | omega) only [e123_0, e123_1, e123_4, e123_5, e123_8, e123_9, e123_10, e123_13, e123_14, e123_15, e123_16, e123_17, e123_20, e123_23, e123_26, e123_28, e123_29, e123_30, e123_33, e123_34, e123_37, e123_38, e123_41, e123_44, e123_45, e123_48, e123_49, e123_52, q_gv0, q_gvs, q_isI1, q_isA1, q_hs0, q_hsn, q_hsi, q_hsr, q_hss, q_inc1, List.set_cons_zero, List.set_cons_succ, ↓reduceIte, q_ss0, q_ssi, q_ssr, q_nr0, q_nr10, q_nr11, q_tlS, q_tlN, q_cl, q_let, q_lef, q_ltt, q_ltf, q_eqt, q_eqf, q_add, q_mul, Nat.reduceAdd, Nat.reduceLeDiff, Nat.reduceEqDiff, eq_self, Nat.zero_le, Nat.le_refl, not_false_eq_true, not_true_eq_false, true_and, and_true, and_self, if_true, if_false, c1, d1, d3]
    exact hQ
  rw [if_neg d2] at hQ
  have d3 : (y ≤ nI 1) = True := eq_true (Int32.not_lt.mp d2)
  by_cases c2 : n ≤ k
  · have c3 : (nI n ≤ nI k) = True := q_let c2 hk
    simp only [hN, c3, if_true] at hQ
    simp (disch := first | assumption | omega) only [e123_0, e123_1, e123_4, e123_5, e123_8, e123_9, e123_10, e123_13, e123_14, e123_15, e123_16, e123_17, e123_20, e123_23, e123_26, e123_28, e123_29, e123_30, e123_33, e123_34, e123_37, e123_38, e123_41, e123_44, e123_45, e123_48, e123_49, e123_52, q_gv0, q_gvs, q_isI1, q_isA1, q_hs0, q_hsn, q_hsi, q_hsr, q_hss, q_inc1, List.set_cons_zero, List.set_cons_succ, ↓reduceIte, q_ss0, q_ssi, q_ssr, q_nr0, q_nr10, q_nr11, q_tlS, q_tlN, q_cl, q_let, q_lef, q_ltt, q_ltf, q_eqt, q_eqf, q_add, q_mul, Nat.reduceAdd, Nat.reduceLeDiff, Nat.reduceEqDiff, eq_self, Nat.zero_le, Nat.le_refl, not_false_eq_true, not_true_eq_false, true_and, and_true, and_self, if_true, if_false, p1.g3, hc.g2, hN, c1, d1, d3]
    exact hQ
  have c3 : (nI n ≤ nI k) = False := q_lef (by omega) (by omega)
  simp only [hN, c3, if_false, q_cl hk] at hQ
  by_cases d4 : y = nI 0
  · rw [if_pos d4] at hQ
    simp (disch := first | assumption | omega) only [e123_0, e123_1, e123_4, e123_5, e123_8, e123_9, e123_10, e123_13, e123_14, e123_15, e123_16, e123_17, e123_20, e123_23, e123_26, e123_28, e123_29, e123_30, e123_33, e123_34, e123_37, e123_38, e123_41, e123_44, e123_45, e123_48, e123_49, e123_52, q_gv0, q_gvs, q_isI1, q_isA1, q_hs0, q_hsn, q_hsi, q_hsr, q_hss, q_inc1, List.set_cons_zero, List.set_cons_succ, ↓reduceIte, q_ss0, q_ssi, q_ssr, q_nr0, q_nr10, q_nr11, q_tlS, q_tlN, q_cl, q_let, q_lef, q_ltt, q_ltf, q_eqt, q_eqf, q_add, q_mul, Nat.reduceAdd, Nat.reduceLeDiff, Nat.reduceEqDiff, eq_self, Nat.zero_le, Nat.le_refl, not_false_eq_true, not_true_eq_false, true_and, and_true, and_self, if_true, if_false, p1.g3, hc.g2, hc.o, hN, c1, d1, d3, d4, cl121 h121]
    exact hQ
  rw [if_neg d4] at hQ
  simp (disch := first | assumption | omega) only [e123_0, e123_1, e123_4, e123_5, e123_8, e123_9, e123_10, e123_13, e123_14, e123_15, e123_16, e123_17, e123_20, e123_23, e123_26, e123_28, e123_29, e123_30, e123_33, e123_34, e123_37, e123_38, e123_41, e123_44, e123_45, e123_48, e123_49, e123_52, q_gv0, q_gvs, q_isI1, q_isA1, q_hs0, q_hsn, q_hsi, q_hsr, q_hss, q_inc1, List.set_cons_zero, List.set_cons_succ, ↓reduceIte, q_ss0, q_ssi, q_ssr, q_nr0, q_nr10, q_nr11, q_tlS, q_tlN, q_cl, q_let, q_lef, q_ltt, q_ltf, q_eqt, q_eqf, q_add, q_mul, Nat.reduceAdd, Nat.reduceLeDiff, Nat.reduceEqDiff, eq_self, Nat.zero_le, Nat.le_refl, not_false_eq_true, not_true_eq_false, true_and, and_true, and_self, if_true, if_false, p1.g3, hc.g2, hc.o, hN, c1, d1, d3, d4, cl122 h122]
  exact hQ
