/-! a common divisor -/
def gdF : Nat → Nat → Nat → Nat
  | 0, a, _ => a
  | n + 1, a, b => if b = 0 then a else gdF n b (a % b)
theorem lp93 {S : Nat → mv_Sp} {sh : mv_Shp} {M : mv_Mem} {P : mv_Post} {x y : Int32} : ∀ n i a b z, i + n = 100 → a < 2147483648 → b < 2147483648 → P (some (.int (nI (gdF n a b)))) sh M →
    mr93 S P 7 [some (.int x), some (.int y), some (.int (nI a)), some (.int (nI b)), some (.int (nI i)), z] [] sh M 0 0
  | 0, i, a, b, z, h, ha, hb, hQ => by
    obtain rfl : i = 100 := by omega
    rw [e93_7]
    simp (disch := first | assumption | omega) only [e93_0, e93_1, e93_2, e93_3, e93_4, e93_5, e93_9, e93_11, e93_14, e93_15, e93_18, e93_19, e93_20, e93_21, e93_23, e93_24, e93_25, e93_27, e93_28, e93_31, e93_34, e93_35, q_gv0, q_gvs, q_isI1, q_isA1, q_hs0, q_hsn, q_hsi, q_hsr, q_hss, q_inc1, List.set_cons_zero, List.set_cons_succ, ↓reduceIte, q_ss0, q_ssi, q_ssr, q_nr0, q_nr10, q_nr11, q_tlS, q_tlN, q_cl, q_let, q_lef, q_ltt, q_ltf, q_eqt, q_eqf, q_add, q_mul, Nat.reduceAdd, Nat.reduceLeDiff, Nat.reduceEqDiff, eq_self, Nat.zero_le, Nat.le_refl, not_false_eq_true, not_true_eq_false, true_and, and_true, and_self, if_true, if_false]
    exact hQ
  | n + 1, i, a, b, z, h, ha, hb, hQ => by
    unfold gdF at hQ
    rw [e93_7]
    by_cases c : b = 0
    · rw [if_pos c] at hQ
      subst c
      simp (disch := first | assumption | omega) only [e93_0, e93_1, e93_2, e93_3, e93_4, e93_5, e93_9, e93_11, e93_14, e93_15, e93_18, e93_19, e93_20, e93_21, e93_23, e93_24, e93_25, e93_27, e93_28, e93_31, e93_34, e93_35, q_gv0, q_gvs, q_isI1, q_isA1, q_hs0, q_hsn, q_hsi, q_hsr, q_hss, q_inc1, List.set_cons_zero, List.set_cons_succ, ↓reduceIte, q_ss0, q_ssi, q_ssr, q_nr0, q_nr10, q_nr11, q_tlS, q_tlN, q_cl, q_let, q_lef, q_ltt, q_ltf, q_eqt, q_eqf, q_add, q_mul, Nat.reduceAdd, Nat.reduceLeDiff, Nat.reduceEqDiff, eq_self, Nat.zero_le, Nat.le_refl, not_false_eq_true, not_true_eq_false, true_and, and_true, and_self, if_true, if_false]
      exact hQ
    · rw [if_neg c] at hQ
      have b0 : 0 < b := by omega
      have m1 : a % b < b := Nat.mod_lt _ b0
      simp (disch := first | assumption | omega) only [e93_0, e93_1, e93_2, e93_3, e93_4, e93_5, e93_9, e93_11, e93_14, e93_15, e93_18, e93_19, e93_20, e93_21, e93_23, e93_24, e93_25, e93_27, e93_28, e93_31, e93_34, e93_35, q_gv0, q_gvs, q_isI1, q_isA1, q_hs0, q_hsn, q_hsi, q_hsr, q_hss, q_inc1, List.set_cons_zero, List.set_cons_succ, ↓reduceIte, q_ss0, q_ssi, q_ssr, q_nr0, q_nr10, q_nr11, q_tlS, q_tlN, q_cl, q_let, q_lef, q_ltt, q_ltf, q_eqt, q_eqf, q_add, q_mul, Nat.reduceAdd, Nat.reduceLeDiff, Nat.reduceEqDiff, eq_self, Nat.zero_le, Nat.le_refl, not_false_eq_true, not_true_eq_false, true_and, and_true, and_self, if_true, if_false, q_rem]
      exact lp93 n (i + 1) b (a % b) _ (by omega) hb (by omega) hQ
def sp93 : mv_Sp := fun As sh M Q => ∃ (x : Nat) (y : Nat), As = [.int (nI x), .int (nI y)] ∧ ((x < 2147483648) ∧ (y < 2147483648)) ∧ Q (some (.int (nI (gdF 100 x y)))) (sh) (M)
theorem cl93 {S : Nat → mv_Sp} (hS : S 93 = sp93) {sh : mv_Shp} {M : mv_Mem} {x : Nat} {y : Nat} (p1 : x < 2147483648) (p2 : y < 2147483648) {K : mv_Kt} {pc : Nat} {L : mv_Loc} {st : List Value} {cc_ ss_ : Nat} : mv_kal S 93 [.int (nI x), .int (nI y)] sh M K pc L st cc_ ss_ = K pc L ((some (.int (nI (gdF 100 x y))) : Option Value).toList ++ st) (sh) (M) cc_ ss_ := by
  refine q_kal (fun F => q_cali (fun Q => ?_))
  rw [hS]
  constructor
  · rintro ⟨x', y', hE, ⟨zp1, zp2⟩, hQ⟩
    simp only [List.cons.injEq, Value.ref.injEq, Value.int.injEq, Value.long.injEq, and_true, true_and] at hE
    obtain ⟨e_x, e_y⟩ := hE
    have z_x := nI_inj e_x (by omega) (by omega)
    subst z_x
    have z_y := nI_inj e_y (by omega) (by omega)
    subst z_y
    exact hQ
  · intro hQ
    exact ⟨x, y, rfl, ⟨p1, p2⟩, hQ⟩
theorem ct93 {S : Nat → mv_Sp}  : ∀ As sh M P, sp93 As sh M P → (mv_al0 As).length ≤ 6 ∧ mr93 S P 0 (mv_ent As 6) [] sh M 0 0 := by
  rintro As sh M P ⟨x, y, rfl, ⟨p1, p2⟩, hQ⟩
  refine ⟨Nat.le_of_ble_eq_true rfl, ?_⟩
  show mr93 S P 0 [some (.int (nI x)), some (.int (nI y)), none, none, none, none] [] sh M 0 0
  simp (disch := first | assumption | omega) only [e93_0, e93_1, e93_2, e93_3, e93_4, e93_5, q_gv0, q_gvs, q_isI1, q_isA1, q_hs0, q_hsn, q_hsi, q_hsr, q_hss, q_inc1, List.set_cons_zero, List.set_cons_succ, ↓reduceIte, q_ss0, q_ssi, q_ssr, q_nr0, q_nr10, q_nr11, q_tlS, q_tlN, q_cl, q_let, q_lef, q_ltt, q_ltf, q_eqt, q_eqf, q_add, q_mul, Nat.reduceAdd, Nat.reduceLeDiff, Nat.reduceEqDiff, eq_self, Nat.zero_le, Nat.le_refl, not_false_eq_true, not_true_eq_false, true_and, and_true, and_self, if_true, if_false]
  exact lp93 100 0 x y none rfl p1 p2 hQ
