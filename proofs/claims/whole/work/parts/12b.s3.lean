/-! the cloth's tops, colours, slants; turning -/
/-- what a turned tablet's figures become -/
def tmM (M : mv_Mem) (c t : Nat) (q : Int32) : mv_Mem := mv_up (mv_up (mv_up M (c + 1) (t * 5 + 0) ((M (c + 1) (t * 5 + 0) + q) &&& nI 3)) (c + 1) (t * 5 + 1) (M (c + 1) (t * 5 + 1) + q)) (c + 1) (t * 5 + 4) (if nI 0 < q then nI 0 else nI 1)
theorem ocF_lt (kd w : Nat) (tw lim : Int32) : ocF kd w tw lim = 0 ∨ ocF kd w tw lim = 1 ∨ ocF kd w tw lim = 2 := by
  unfold ocF
  split
  · exact Or.inr (Or.inl rfl)
  · generalize (if nI 0 ≤ tw + qf kd w then tw + qf kd w else nI 0 - (tw + qf kd w)) = z
    by_cases h : lim < z
    · rw [if_pos h]; exact Or.inr (Or.inr rfl)
    · rw [if_neg h]; exact Or.inl rfl
def sp63 : mv_Sp := fun As sh M Q => ∃ (c : Nat) (a : Nat) (t : Nat) (w : Nat), As = [.ref c, .ref a, .int (nI t), .int (nI w)] ∧ ((oC sh c) ∧ (oL sh a) ∧ (t < 6) ∧ (w < 2) ∧ (∃ k, k < 4 ∧ M (a + 1) t = nI k)) ∧ Q (some (.int (nI (ocF (M (a + 1) t).toNatClampNeg w (M (c + 1) (t * 5 + 1)) (M a 3))))) (sh) (if ocF (M (a + 1) t).toNatClampNeg w (M (c + 1) (t * 5 + 1)) (M a 3) = 0 then tmM M c t (qf (M (a + 1) t).toNatClampNeg w) else M)
theorem cl63 {S : Nat → mv_Sp} (hS : S 63 = sp63) {sh : mv_Shp} {M : mv_Mem} {c : Nat} {a : Nat} {t : Nat} {w : Nat} (p1 : oC sh c) (p2 : oL sh a) (p3 : t < 6) (p4 : w < 2) (p5 : ∃ k, k < 4 ∧ M (a + 1) t = nI k) {K : mv_Kt} {pc : Nat} {L : mv_Loc} {st : List Value} {cc_ ss_ : Nat} : mv_kal S 63 [.ref c, .ref a, .int (nI t), .int (nI w)] sh M K pc L st cc_ ss_ = K pc L ((some (.int (nI (ocF (M (a + 1) t).toNatClampNeg w (M (c + 1) (t * 5 + 1)) (M a 3)))) : Option Value).toList ++ st) (sh) (if ocF (M (a + 1) t).toNatClampNeg w (M (c + 1) (t * 5 + 1)) (M a 3) = 0 then tmM M c t (qf (M (a + 1) t).toNatClampNeg w) else M) cc_ ss_ := by
  refine q_kal (fun F => q_cali (fun Q => ?_))
  rw [hS]
  constructor
  · rintro ⟨c', a', t', w', hE, ⟨zp1, zp2, zp3, zp4, zp5⟩, hQ⟩
    simp only [List.cons.injEq, Value.ref.injEq, Value.int.injEq, Value.long.injEq, and_true, true_and] at hE
    obtain ⟨rfl, rfl, e_t, e_w⟩ := hE
    have z_t := nI_inj e_t (by omega) (by omega)
    subst z_t
    have z_w := nI_inj e_w (by omega) (by omega)
    subst z_w
    exact hQ
  · intro hQ
    exact ⟨c, a, t, w, rfl, ⟨p1, p2, p3, p4, p5⟩, hQ⟩
theorem ct63 {S : Nat → mv_Sp} (h44 : S 44 = sp44) (h60 : S 60 = sp60) (h61 : S 61 = sp61) (h62 : S 62 = sp62) : ∀ As sh M P, sp63 As sh M P → (mv_al0 As).length ≤ 6 ∧ mr63 S P 0 (mv_ent As 6) [] sh M 0 0 := by
  rintro As sh M P ⟨c, a, t, w, rfl, ⟨p1, p2, p3, p4, p5⟩, hQ⟩
  refine ⟨Nat.le_of_ble_eq_true rfl, ?_⟩
  show mr63 S P 0 [some (.ref c), some (.ref a), some (.int (nI t)), some (.int (nI w)), none, none] [] sh M 0 0
  unfold tmM at hQ
  rcases ocF_lt (M (a + 1) t).toNatClampNeg w (M (c + 1) (t * 5 + 1)) (M a 3) with h | h | h
  · rw [h] at hQ
    rw [if_pos rfl] at hQ
    simp (disch := first | assumption | omega) only [e63_0, e63_1, e63_2, e63_3, e63_4, e63_7, e63_9, e63_11, e63_14, e63_15, e63_16, e63_17, e63_20, e63_22, e63_23, e63_24, e63_25, e63_26, e63_27, e63_28, e63_31, e63_33, e63_34, e63_35, e63_36, e63_39, e63_40, e63_41, e63_42, e63_43, e63_44, e63_45, e63_48, e63_50, e63_51, e63_54, e63_55, e63_56, e63_57, e63_59, e63_62, e63_63, e63_66, e63_67, e63_70, e63_72, q_gv0, q_gvs, q_isI1, q_isA1, q_hs0, q_hsn, q_hsi, q_hsr, q_hss, q_inc1, List.set_cons_zero, List.set_cons_succ, ↓reduceIte, q_ss0, q_ssi, q_ssr, q_nr0, q_nr10, q_nr11, q_tlS, q_tlN, q_cl, q_let, q_lef, q_ltt, q_ltf, q_eqt, q_eqf, q_add, q_mul, Nat.reduceAdd, Nat.reduceLeDiff, Nat.reduceEqDiff, eq_self, Nat.zero_le, Nat.le_refl, not_false_eq_true, not_true_eq_false, true_and, and_true, and_self, if_true, if_false, cl44 h44, cl60 h60, cl61 h61, cl62 h62, p1.o, p2.o, h, q_upN]
    by_cases h1 : nI 0 < qf (M (a + 1) t).toNatClampNeg w
    · rw [if_pos h1] at hQ
      rw [if_neg (Int32.not_le.mpr h1)]
      exact hQ
    · rw [if_neg h1] at hQ
      rw [if_pos (Int32.not_lt.mp h1)]
      exact hQ
  · rw [h] at hQ
    rw [if_neg (by decide)] at hQ
    simp (disch := first | assumption | omega) only [e63_0, e63_1, e63_2, e63_3, e63_4, e63_7, e63_9, e63_11, e63_14, e63_15, e63_16, e63_17, e63_20, e63_22, e63_23, e63_24, e63_25, e63_26, e63_27, e63_28, e63_31, e63_33, e63_34, e63_35, e63_36, e63_39, e63_40, e63_41, e63_42, e63_43, e63_44, e63_45, e63_48, e63_50, e63_51, e63_54, e63_55, e63_56, e63_57, e63_59, e63_62, e63_63, e63_66, e63_67, e63_70, e63_72, q_gv0, q_gvs, q_isI1, q_isA1, q_hs0, q_hsn, q_hsi, q_hsr, q_hss, q_inc1, List.set_cons_zero, List.set_cons_succ, ↓reduceIte, q_ss0, q_ssi, q_ssr, q_nr0, q_nr10, q_nr11, q_tlS, q_tlN, q_cl, q_let, q_lef, q_ltt, q_ltf, q_eqt, q_eqf, q_add, q_mul, Nat.reduceAdd, Nat.reduceLeDiff, Nat.reduceEqDiff, eq_self, Nat.zero_le, Nat.le_refl, not_false_eq_true, not_true_eq_false, true_and, and_true, and_self, if_true, if_false, cl44 h44, cl60 h60, cl61 h61, cl62 h62, p1.o, p2.o, h]
    exact hQ
  · rw [h] at hQ
    rw [if_neg (by decide)] at hQ
    simp (disch := first | assumption | omega) only [e63_0, e63_1, e63_2, e63_3, e63_4, e63_7, e63_9, e63_11, e63_14, e63_15, e63_16, e63_17, e63_20, e63_22, e63_23, e63_24, e63_25, e63_26, e63_27, e63_28, e63_31, e63_33, e63_34, e63_35, e63_36, e63_39, e63_40, e63_41, e63_42, e63_43, e63_44, e63_45, e63_48, e63_50, e63_51, e63_54, e63_55, e63_56, e63_57, e63_59, e63_62, e63_63, e63_66, e63_67, e63_70, e63_72, q_gv0, q_gvs, q_isI1, q_isA1, q_hs0, q_hsn, q_hsi, q_hsr, q_hss, q_inc1, List.set_cons_zero, List.set_cons_succ, ↓reduceIte, q_ss0, q_ssi, q_ssr, q_nr0, q_nr10, q_nr11, q_tlS, q_tlN, q_cl, q_let, q_lef, q_ltt, q_ltf, q_eqt, q_eqf, q_add, q_mul, Nat.reduceAdd, Nat.reduceLeDiff, Nat.reduceEqDiff, eq_self, Nat.zero_le, Nat.le_refl, not_false_eq_true, not_true_eq_false, true_and, and_true, and_self, if_true, if_false, cl44 h44, cl60 h60, cl61 h61, cl62 h62, p1.o, p2.o, h]
    exact hQ
/-- the holes on top, as one number, of the tablets below n -/
def tpF (g : Nat → Int32) : Nat → Int32
  | 0 => nI 0
  | t + 1 => tpF g t ||| (g t <<< (nI (2 * t) &&& 31))
theorem lp66 {S : Nat → mv_Sp} (h61 : S 61 = sp61) (h65 : S 65 = sp65) {sh : mv_Shp} {M : mv_Mem} {P : mv_Post} {c : Nat} (p1 : oC sh c) (hQ : P (some (.int (tpF (fun t => M (c + 1) (t * 5 + 0)) 6))) sh M) :
    ∀ n t, t + n = 6 → mr66 S P 4 [some (.ref c), some (.int (tpF (fun t => M (c + 1) (t * 5 + 0)) t)), some (.int (nI t))] [] sh M 0 0
  | 0, t, h => by
    obtain rfl : t = 6 := by omega
    rw [e66_4]
    simp (disch := first | assumption | omega) only [e66_0, e66_1, e66_2, e66_3, e66_5, e66_7, e66_10, e66_11, e66_12, e66_13, e66_14, e66_15, e66_18, e66_21, e66_22, e66_23, e66_26, e66_29, e66_30, q_gv0, q_gvs, q_isI1, q_isA1, q_hs0, q_hsn, q_hsi, q_hsr, q_hss, q_inc1, List.set_cons_zero, List.set_cons_succ, ↓reduceIte, q_ss0, q_ssi, q_ssr, q_nr0, q_nr10, q_nr11, q_tlS, q_tlN, q_cl, q_let, q_lef, q_ltt, q_ltf, q_eqt, q_eqf, q_add, q_mul, Nat.reduceAdd, Nat.reduceLeDiff, Nat.reduceEqDiff, eq_self, Nat.zero_le, Nat.le_refl, not_false_eq_true, not_true_eq_false, true_and, and_true, and_self, if_true, if_false]
    exact hQ
  | n + 1, t, h => by
    rw [e66_4]
    simp (disch := first | assumption | omega) only [e66_0, e66_1, e66_2, e66_3, e66_5, e66_7, e66_10, e66_11, e66_12, e66_13, e66_14, e66_15, e66_18, e66_21, e66_22, e66_23, e66_26, e66_29, e66_30, q_gv0, q_gvs, q_isI1, q_isA1, q_hs0, q_hsn, q_hsi, q_hsr, q_hss, q_inc1, List.set_cons_zero, List.set_cons_succ, ↓reduceIte, q_ss0, q_ssi, q_ssr, q_nr0, q_nr10, q_nr11, q_tlS, q_tlN, q_cl, q_let, q_lef, q_ltt, q_ltf, q_eqt, q_eqf, q_add, q_mul, Nat.reduceAdd, Nat.reduceLeDiff, Nat.reduceEqDiff, eq_self, Nat.zero_le, Nat.le_refl, not_false_eq_true, not_true_eq_false, true_and, and_true, and_self, if_true, if_false, cl61 h61, cl65 h65, p1.o]
    exact lp66 h61 h65 p1 hQ n (t + 1) (by omega)
def sp66 : mv_Sp := fun As sh M Q => ∃ (c : Nat), As = [.ref c] ∧ ((oC sh c)) ∧ Q (some (.int (tpF (fun t => M (c + 1) (t * 5 + 0)) 6))) (sh) (M)
theorem cl66 {S : Nat → mv_Sp} (hS : S 66 = sp66) {sh : mv_Shp} {M : mv_Mem} {c : Nat} (p1 : oC sh c) {K : mv_Kt} {pc : Nat} {L : mv_Loc} {st : List Value} {cc_ ss_ : Nat} : mv_kal S 66 [.ref c] sh M K pc L st cc_ ss_ = K pc L ((some (.int (tpF (fun t => M (c + 1) (t * 5 + 0)) 6)) : Option Value).toList ++ st) (sh) (M) cc_ ss_ := by
  refine q_kal (fun F => q_cali (fun Q => ?_))
  rw [hS]
  constructor
  · rintro ⟨c', hE, zp1, hQ⟩
    simp only [List.cons.injEq, Value.ref.injEq, Value.int.injEq, Value.long.injEq, and_true, true_and] at hE
    subst hE
    exact hQ
  · intro hQ
    exact ⟨c, rfl, p1, hQ⟩
theorem ct66 {S : Nat → mv_Sp} (h61 : S 61 = sp61) (h65 : S 65 = sp65) : ∀ As sh M P, sp66 As sh M P → (mv_al0 As).length ≤ 3 ∧ mr66 S P 0 (mv_ent As 3) [] sh M 0 0 := by
  rintro As sh M P ⟨c, rfl, p1, hQ⟩
  refine ⟨Nat.le_of_ble_eq_true rfl, ?_⟩
  show mr66 S P 0 [some (.ref c), none, none] [] sh M 0 0
  simp (disch := first | assumption | omega) only [e66_0, e66_1, e66_2, e66_3, q_gv0, q_gvs, q_isI1, q_isA1, q_hs0, q_hsn, q_hsi, q_hsr, q_hss, q_inc1, List.set_cons_zero, List.set_cons_succ, ↓reduceIte, q_ss0, q_ssi, q_ssr, q_nr0, q_nr10, q_nr11, q_tlS, q_tlN, q_cl, q_let, q_lef, q_ltt, q_ltf, q_eqt, q_eqf, q_add, q_mul, Nat.reduceAdd, Nat.reduceLeDiff, Nat.reduceEqDiff, eq_self, Nat.zero_le, Nat.le_refl, not_false_eq_true, not_true_eq_false, true_and, and_true, and_self, if_true, if_false]
  exact lp66 h61 h65 p1 hQ 6 0 rfl
/-- colours of the tablets below n, as one number -/
def clF (g : Nat → Int32) : Nat → Int32
  | 0 => nI 0
  | t + 1 => clF g t * nI 10 + g t
/-- which hole of tablet t is on top in the number x -/
def hlF (x : Int32) (t : Nat) : Int32 := x >>> (nI (2 * t) &&& 31) &&& nI 3
theorem hlF_lt (x : Int32) (t : Nat) : ∃ h, h < 4 ∧ hlF x t = nI h := pk_andE _ (m := nI 3) 2 (by decide)
theorem lp67 {S : Nat → mv_Sp} (h29 : S 29 = sp29) {sh : mv_Shp} {M : mv_Mem} {P : mv_Post} {a nT : Nat} {x : Int32} (p1 : oL sh a) (hT : M a 0 = nI nT) (hT6 : nT ≤ 6) (hQ : P (some (.int (clF (fun t => M (a + 3) (t * 4 + (hlF x t).toNatClampNeg)) nT))) sh M) :
    ∀ n t, t + n = nT → mr67 S P 4 [some (.ref a), some (.int x), some (.int (clF (fun t => M (a + 3) (t * 4 + (hlF x t).toNatClampNeg)) t)), some (.int (nI t))] [] sh M 0 0
  | 0, t, h => by
    obtain rfl : t = nT := by omega
    rw [e67_4]
    simp (disch := first | assumption | omega) only [e67_0, e67_1, e67_2, e67_3, e67_5, e67_6, e67_9, e67_12, e67_13, e67_15, e67_16, e67_17, e67_18, e67_19, e67_20, e67_21, e67_22, e67_23, e67_24, e67_25, e67_28, e67_29, e67_30, e67_33, e67_36, e67_37, q_gv0, q_gvs, q_isI1, q_isA1, q_hs0, q_hsn, q_hsi, q_hsr, q_hss, q_inc1, List.set_cons_zero, List.set_cons_succ, ↓reduceIte, q_ss0, q_ssi, q_ssr, q_nr0, q_nr10, q_nr11, q_tlS, q_tlN, q_cl, q_let, q_lef, q_ltt, q_ltf, q_eqt, q_eqf, q_add, q_mul, Nat.reduceAdd, Nat.reduceLeDiff, Nat.reduceEqDiff, eq_self, Nat.zero_le, Nat.le_refl, not_false_eq_true, not_true_eq_false, true_and, and_true, and_self, if_true, if_false, p1.g0, hT]
    exact hQ
  | n + 1, t, h => by
    rw [e67_4]
    obtain ⟨hh, h4, he⟩ := hlF_lt x t
    have ih := lp67 h29 p1 hT hT6 hQ n (t + 1) (by omega)
    have e : clF (fun t => M (a + 3) (t * 4 + (hlF x t).toNatClampNeg)) (t + 1) = clF (fun t => M (a + 3) (t * 4 + (hlF x t).toNatClampNeg)) t * nI 10 + M (a + 3) (t * 4 + hh) := by
      show clF _ t * nI 10 + M (a + 3) (t * 4 + (hlF x t).toNatClampNeg) = _
      rw [he, q_cl (by omega)]
    rw [e] at ih
    have he : x >>> (nI (2 * t) &&& 31) &&& nI 3 = nI hh := he
    simp (disch := first | assumption | omega) only [e67_0, e67_1, e67_2, e67_3, e67_5, e67_6, e67_9, e67_12, e67_13, e67_15, e67_16, e67_17, e67_18, e67_19, e67_20, e67_21, e67_22, e67_23, e67_24, e67_25, e67_28, e67_29, e67_30, e67_33, e67_36, e67_37, q_gv0, q_gvs, q_isI1, q_isA1, q_hs0, q_hsn, q_hsi, q_hsr, q_hss, q_inc1, List.set_cons_zero, List.set_cons_succ, ↓reduceIte, q_ss0, q_ssi, q_ssr, q_nr0, q_nr10, q_nr11, q_tlS, q_tlN, q_cl, q_let, q_lef, q_ltt, q_ltf, q_eqt, q_eqf, q_add, q_mul, Nat.reduceAdd, Nat.reduceLeDiff, Nat.reduceEqDiff, eq_self, Nat.zero_le, Nat.le_refl, not_false_eq_true, not_true_eq_false, true_and, and_true, and_self, if_true, if_false, p1.g0, p1.o, hT, he, cl29 h29]
    exact ih
def sp67 : mv_Sp := fun As sh M Q => ∃ (a : Nat) (x : Int32), As = [.ref a, .int x] ∧ ((oL sh a) ∧ (∃ n, n ≤ 6 ∧ M a 0 = nI n)) ∧ Q (some (.int (clF (fun t => M (a + 3) (t * 4 + (hlF x t).toNatClampNeg)) (M a 0).toNatClampNeg))) (sh) (M)
theorem cl67 {S : Nat → mv_Sp} (hS : S 67 = sp67) {sh : mv_Shp} {M : mv_Mem} {a : Nat} {x : Int32} (p1 : oL sh a) (p2 : ∃ n, n ≤ 6 ∧ M a 0 = nI n) {K : mv_Kt} {pc : Nat} {L : mv_Loc} {st : List Value} {cc_ ss_ : Nat} : mv_kal S 67 [.ref a, .int x] sh M K pc L st cc_ ss_ = K pc L ((some (.int (clF (fun t => M (a + 3) (t * 4 + (hlF x t).toNatClampNeg)) (M a 0).toNatClampNeg)) : Option Value).toList ++ st) (sh) (M) cc_ ss_ := by
  refine q_kal (fun F => q_cali (fun Q => ?_))
  rw [hS]
  constructor
  · rintro ⟨a', x', hE, ⟨zp1, zp2⟩, hQ⟩
    simp only [List.cons.injEq, Value.ref.injEq, Value.int.injEq, Value.long.injEq, and_true, true_and] at hE
    obtain ⟨rfl, rfl⟩ := hE
    exact hQ
  · intro hQ
    exact ⟨a, x, rfl, ⟨p1, p2⟩, hQ⟩
theorem ct67 {S : Nat → mv_Sp} (h29 : S 29 = sp29) : ∀ As sh M P, sp67 As sh M P → (mv_al0 As).length ≤ 4 ∧ mr67 S P 0 (mv_ent As 4) [] sh M 0 0 := by
  rintro As sh M P ⟨a, x, rfl, ⟨p1, p2⟩, hQ⟩
  refine ⟨Nat.le_of_ble_eq_true rfl, ?_⟩
  show mr67 S P 0 [some (.ref a), some (.int x), none, none] [] sh M 0 0
  obtain ⟨nT, h6, hT⟩ := p2
  rw [hT, q_cl (by omega)] at hQ
  simp (disch := first | assumption | omega) only [e67_0, e67_1, e67_2, e67_3, q_gv0, q_gvs, q_isI1, q_isA1, q_hs0, q_hsn, q_hsi, q_hsr, q_hss, q_inc1, List.set_cons_zero, List.set_cons_succ, ↓reduceIte, q_ss0, q_ssi, q_ssr, q_nr0, q_nr10, q_nr11, q_tlS, q_tlN, q_cl, q_let, q_lef, q_ltt, q_ltf, q_eqt, q_eqf, q_add, q_mul, Nat.reduceAdd, Nat.reduceLeDiff, Nat.reduceEqDiff, eq_self, Nat.zero_le, Nat.le_refl, not_false_eq_true, not_true_eq_false, true_and, and_true, and_self, if_true, if_false]
  exact lp67 h29 p1 hT h6 hQ nT 0 (by omega)
/-- slants of the tablets below n, as bits -/
def slF (g : Nat → Int32) : Nat → Int32
  | 0 => nI 0
  | t + 1 => slF g t ||| (g t <<< (nI t &&& 31))
/-- the slant of tablet t of the cloth at c -/
def snF (M : mv_Mem) (c t : Nat) : Int32 := if M (c + 1) (t * 5 + 4) = nI 1 then nI 1 - M (c + 1) (t * 5 + 3) else M (c + 1) (t * 5 + 3)
theorem lp69 {S : Nat → mv_Sp} (h68 : S 68 = sp68) {sh : mv_Shp} {M : mv_Mem} {P : mv_Post} {c nT : Nat} (p1 : oC sh c) (hT6 : nT ≤ 6) (hQ : P (some (.int (slF (snF M c) nT))) sh M) :
    ∀ n t, t + n = nT → mr69 S P 4 [some (.ref c), some (.int (nI nT)), some (.int (slF (snF M c) t)), some (.int (nI t))] [] sh M 0 0
  | 0, t, h => by
    obtain rfl : t = nT := by omega
    rw [e69_4]
    simp (disch := first | assumption | omega) only [e69_0, e69_1, e69_2, e69_3, e69_5, e69_6, e69_9, e69_10, e69_11, e69_12, e69_15, e69_16, e69_17, e69_18, e69_19, e69_22, e69_25, e69_26, q_gv0, q_gvs, q_isI1, q_isA1, q_hs0, q_hsn, q_hsi, q_hsr, q_hss, q_inc1, List.set_cons_zero, List.set_cons_succ, ↓reduceIte, q_ss0, q_ssi, q_ssr, q_nr0, q_nr10, q_nr11, q_tlS, q_tlN, q_cl, q_let, q_lef, q_ltt, q_ltf, q_eqt, q_eqf, q_add, q_mul, Nat.reduceAdd, Nat.reduceLeDiff, Nat.reduceEqDiff, eq_self, Nat.zero_le, Nat.le_refl, not_false_eq_true, not_true_eq_false, true_and, and_true, and_self, if_true, if_false]
    exact hQ
  | n + 1, t, h => by
    rw [e69_4]
    simp (disch := first | assumption | omega) only [e69_0, e69_1, e69_2, e69_3, e69_5, e69_6, e69_9, e69_10, e69_11, e69_12, e69_15, e69_16, e69_17, e69_18, e69_19, e69_22, e69_25, e69_26, q_gv0, q_gvs, q_isI1, q_isA1, q_hs0, q_hsn, q_hsi, q_hsr, q_hss, q_inc1, List.set_cons_zero, List.set_cons_succ, ↓reduceIte, q_ss0, q_ssi, q_ssr, q_nr0, q_nr10, q_nr11, q_tlS, q_tlN, q_cl, q_let, q_lef, q_ltt, q_ltf, q_eqt, q_eqf, q_add, q_mul, Nat.reduceAdd, Nat.reduceLeDiff, Nat.reduceEqDiff, eq_self, Nat.zero_le, Nat.le_refl, not_false_eq_true, not_true_eq_false, true_and, and_true, and_self, if_true, if_false, p1.o, cl68 h68]
    exact lp69 h68 p1 hT6 hQ n (t + 1) (by omega)
def sp69 : mv_Sp := fun As sh M Q => ∃ (c : Nat) (n : Nat), As = [.ref c, .int (nI n)] ∧ ((oC sh c) ∧ (n < 7)) ∧ Q (some (.int (slF (snF M c) n))) (sh) (M)
theorem cl69 {S : Nat → mv_Sp} (hS : S 69 = sp69) {sh : mv_Shp} {M : mv_Mem} {c : Nat} {n : Nat} (p1 : oC sh c) (p2 : n < 7) {K : mv_Kt} {pc : Nat} {L : mv_Loc} {st : List Value} {cc_ ss_ : Nat} : mv_kal S 69 [.ref c, .int (nI n)] sh M K pc L st cc_ ss_ = K pc L ((some (.int (slF (snF M c) n)) : Option Value).toList ++ st) (sh) (M) cc_ ss_ := by
  refine q_kal (fun F => q_cali (fun Q => ?_))
  rw [hS]
  constructor
  · rintro ⟨c', n', hE, ⟨zp1, zp2⟩, hQ⟩
    simp only [List.cons.injEq, Value.ref.injEq, Value.int.injEq, Value.long.injEq, and_true, true_and] at hE
    obtain ⟨rfl, e_n⟩ := hE
    have z_n := nI_inj e_n (by omega) (by omega)
    subst z_n
    exact hQ
  · intro hQ
    exact ⟨c, n, rfl, ⟨p1, p2⟩, hQ⟩
theorem ct69 {S : Nat → mv_Sp} (h68 : S 68 = sp68) : ∀ As sh M P, sp69 As sh M P → (mv_al0 As).length ≤ 4 ∧ mr69 S P 0 (mv_ent As 4) [] sh M 0 0 := by
  rintro As sh M P ⟨c, n, rfl, ⟨p1, p2⟩, hQ⟩
  refine ⟨Nat.le_of_ble_eq_true rfl, ?_⟩
  show mr69 S P 0 [some (.ref c), some (.int (nI n)), none, none] [] sh M 0 0
  simp (disch := first | assumption | omega) only [e69_0, e69_1, e69_2, e69_3, q_gv0, q_gvs, q_isI1, q_isA1, q_hs0, q_hsn, q_hsi, q_hsr, q_hss, q_inc1, List.set_cons_zero, List.set_cons_succ, ↓reduceIte, q_ss0, q_ssi, q_ssr, q_nr0, q_nr10, q_nr11, q_tlS, q_tlN, q_cl, q_let, q_lef, q_ltt, q_ltf, q_eqt, q_eqf, q_add, q_mul, Nat.reduceAdd, Nat.reduceLeDiff, Nat.reduceEqDiff, eq_self, Nat.zero_le, Nat.le_refl, not_false_eq_true, not_true_eq_false, true_and, and_true, and_self, if_true, if_false]
  exact lp69 h68 p1 (by omega) hQ n 0 (by omega)
/-- what comes of tablet t, if pack p is turned -/
def toF (M : mv_Mem) (c a p w t : Nat) : Nat := if M (a + 5) p >>> (nI t &&& 31) &&& nI 1 = nI 1 then ocF (M (a + 1) t).toNatClampNeg w (M (c + 1) (t * 5 + 1)) (M a 3) else 1
/-- what a pick makes of tablet t's figures -/
def tsM (M : mv_Mem) (c a p w t : Nat) : mv_Mem :=
  if toF M c a p w t = 0 then mv_up (tmM M c t (qf (M (a + 1) t).toNatClampNeg w)) (c + 1) (t * 5 + 2) (nI 0)
  else mv_up M (c + 1) (t * 5 + 2) (if nI 99 < M (c + 1) (t * 5 + 2) + nI 1 then nI 99 else M (c + 1) (t * 5 + 2) + nI 1)
def trM (M : mv_Mem) (c a p w : Nat) : Nat → mv_Mem
  | 0 => M
  | t + 1 => tsM (trM M c a p w t) c a p w t
/-- how many jam -/
def tjF (M : mv_Mem) (c a p w : Nat) : Nat → Nat
  | 0 => 0
  | t + 1 => tjF M c a p w t + (if toF (trM M c a p w t) c a p w t = 2 then 1 else 0)
theorem tsM_out {M : mv_Mem} {c a p w t b : Nat} (h : b ≠ c + 1) : tsM M c a p w t b = M b := by
  unfold tsM tmM
  split <;> (funext j; simp (disch := first | assumption | omega) only [q_upO])
theorem trM_out {M : mv_Mem} {c a p w b : Nat} (h : b ≠ c + 1) : ∀ t, trM M c a p w t b = M b
  | 0 => rfl
  | t + 1 => (tsM_out h).trans (trM_out h t)
theorem toF_lt (M : mv_Mem) (c a p w t : Nat) : toF M c a p w t = 0 ∨ toF M c a p w t = 1 ∨ toF M c a p w t = 2 := by
  unfold toF
  split
  · exact ocF_lt _ _ _ _
  · exact Or.inr (Or.inl rfl)
theorem tjF_le (M : mv_Mem) (c a p w : Nat) : ∀ t, tjF M c a p w t ≤ t
  | 0 => Nat.le_refl _
  | t + 1 => by
    have := tjF_le M c a p w t
    unfold tjF
    split <;> omega
/-- the loom's numbers: tablets, packs, picks, most twist; kinds, threadings, threads, first alike, packs, draft -/
def gL (M : mv_Mem) (a : Nat) : Prop := (∃ n, n ≤ 6 ∧ M a 0 = nI n) ∧ (∃ n, n ≤ 6 ∧ M a 1 = nI n) ∧ (∃ n, n ≤ 8 ∧ M a 2 = nI n) ∧ (∃ n, n ≤ 40 ∧ M a 3 = nI n) ∧ (∀ t, t < 6 → ∃ k, k < 4 ∧ M (a + 1) t = nI k) ∧
  (∀ t, t < 6 → ∃ k, k < 2 ∧ M (a + 2) t = nI k) ∧ (∀ t, t < 24 → ∃ k, k < 10 ∧ M (a + 3) t = nI k) ∧ (∀ t, t < 24 → ∃ k, k < 4 ∧ M (a + 4) t = nI k) ∧ (∀ t, t < 6 → ∃ k, k < 64 ∧ M (a + 5) t = nI k) ∧ (∀ t, t < 8 → ∃ q w, q < 6 ∧ w < 2 ∧ M (a + 6) t = nI (10 * q + w))
theorem lp64 {S : Nat → mv_Sp} (h44 : S 44 = sp44) (h58 : S 58 = sp58) (h61 : S 61 = sp61) (h63 : S 63 = sp63) {sh : mv_Shp} {M : mv_Mem} {P : mv_Post} {c a p w nT : Nat} (p1 : oC sh c) (p2 : oL sh a) (p3 : p < 6) (p4 : w < 2) (p5 : a + 6 < c) (p6 : gL M a) (hT : M a 0 = nI nT) (hT6 : nT ≤ 6)
    (hQ : P (some (.int (nI (tjF M c a p w nT)))) sh (trM M c a p w nT)) :
    ∀ n t, t + n = nT → ∀ x6, mr64 S P 6 [some (.ref c), some (.ref a), some (.int (nI p)), some (.int (nI w)), some (.int (nI (tjF M c a p w t))), some (.int (nI t)), x6] [] sh (trM M c a p w t) 0 0
  | 0, t, h, x6 => by
    obtain rfl : t = nT := by omega
    rw [e64_6]
    have hT' : trM M c a p w t a 0 = nI t := by rw [trM_out (by omega)]; exact hT
    simp (disch := first | assumption | omega) only [e64_0, e64_1, e64_3, e64_4, e64_8, e64_9, e64_12, e64_15, e64_16, e64_17, e64_19, e64_22, e64_25, e64_26, e64_27, e64_29, e64_30, e64_33, e64_36, e64_37, e64_39, e64_41, e64_42, e64_45, e64_48, e64_49, e64_51, e64_52, e64_54, e64_57, e64_58, e64_61, e64_62, e64_64, e64_65, e64_68, e64_69, e64_70, e64_72, e64_75, e64_78, e64_81, e64_84, e64_86, q_gv0, q_gvs, q_isI1, q_isA1, q_hs0, q_hsn, q_hsi, q_hsr, q_hss, q_inc1, List.set_cons_zero, List.set_cons_succ, ↓reduceIte, q_ss0, q_ssi, q_ssr, q_nr0, q_nr10, q_nr11, q_tlS, q_tlN, q_cl, q_let, q_lef, q_ltt, q_ltf, q_eqt, q_eqf, q_add, q_mul, Nat.reduceAdd, Nat.reduceLeDiff, Nat.reduceEqDiff, eq_self, Nat.zero_le, Nat.le_refl, not_false_eq_true, not_true_eq_false, true_and, and_true, and_self, if_true, if_false, p2.g0, hT']
    exact hQ
  | n + 1, t, h, x6 => by
    rw [e64_6]
    have ih := lp64 h44 h58 h61 h63 p1 p2 p3 p4 p5 p6 hT hT6 hQ n (t + 1) (by omega)
    have hT' : trM M c a p w t a 0 = nI nT := by rw [trM_out (by omega)]; exact hT
    have hk : ∃ k, k < 4 ∧ trM M c a p w t (a + 1) t = nI k := by rw [trM_out (by omega)]; exact p6.2.2.2.2.1 t (by omega)
    have hj := tjF_le M c a p w t
    have e1 : trM M c a p w (t + 1) = tsM (trM M c a p w t) c a p w t := rfl
    have e2 : tjF M c a p w (t + 1) = tjF M c a p w t + (if toF (trM M c a p w t) c a p w t = 2 then 1 else 0) := rfl
    rw [e1, e2] at ih
    generalize trM M c a p w t = N at ih hT' hk ⊢
    by_cases hm : N (a + 5) p >>> (nI t &&& 31) &&& nI 1 = nI 1
    · have ho : toF N c a p w t = ocF (N (a + 1) t).toNatClampNeg w (N (c + 1) (t * 5 + 1)) (N a 3) := if_pos hm
      unfold tsM at ih
      rw [ho] at ih
      rcases ocF_lt (N (a + 1) t).toNatClampNeg w (N (c + 1) (t * 5 + 1)) (N a 3) with h0 | h0 | h0
      · rw [h0, if_pos rfl, if_neg (by decide)] at ih
        simp (disch := first | assumption | omega) only [e64_0, e64_1, e64_3, e64_4, e64_8, e64_9, e64_12, e64_15, e64_16, e64_17, e64_19, e64_22, e64_25, e64_26, e64_27, e64_29, e64_30, e64_33, e64_36, e64_37, e64_39, e64_41, e64_42, e64_45, e64_48, e64_49, e64_51, e64_52, e64_54, e64_57, e64_58, e64_61, e64_62, e64_64, e64_65, e64_68, e64_69, e64_70, e64_72, e64_75, e64_78, e64_81, e64_84, e64_86, q_gv0, q_gvs, q_isI1, q_isA1, q_hs0, q_hsn, q_hsi, q_hsr, q_hss, q_inc1, List.set_cons_zero, List.set_cons_succ, ↓reduceIte, q_ss0, q_ssi, q_ssr, q_nr0, q_nr10, q_nr11, q_tlS, q_tlN, q_cl, q_let, q_lef, q_ltt, q_ltf, q_eqt, q_eqf, q_add, q_mul, Nat.reduceAdd, Nat.reduceLeDiff, Nat.reduceEqDiff, eq_self, Nat.zero_le, Nat.le_refl, not_false_eq_true, not_true_eq_false, true_and, and_true, and_self, if_true, if_false, p1.o, p2.o, p2.g0, hT', cl58 h58, cl63 h63, cl61 h61, cl44 h44, hm, h0]
        exact ih _
      · rw [h0, if_neg (by decide), if_neg (by decide)] at ih
        simp (disch := first | assumption | omega) only [e64_0, e64_1, e64_3, e64_4, e64_8, e64_9, e64_12, e64_15, e64_16, e64_17, e64_19, e64_22, e64_25, e64_26, e64_27, e64_29, e64_30, e64_33, e64_36, e64_37, e64_39, e64_41, e64_42, e64_45, e64_48, e64_49, e64_51, e64_52, e64_54, e64_57, e64_58, e64_61, e64_62, e64_64, e64_65, e64_68, e64_69, e64_70, e64_72, e64_75, e64_78, e64_81, e64_84, e64_86, q_gv0, q_gvs, q_isI1, q_isA1, q_hs0, q_hsn, q_hsi, q_hsr, q_hss, q_inc1, List.set_cons_zero, List.set_cons_succ, ↓reduceIte, q_ss0, q_ssi, q_ssr, q_nr0, q_nr10, q_nr11, q_tlS, q_tlN, q_cl, q_let, q_lef, q_ltt, q_ltf, q_eqt, q_eqf, q_add, q_mul, Nat.reduceAdd, Nat.reduceLeDiff, Nat.reduceEqDiff, eq_self, Nat.zero_le, Nat.le_refl, not_false_eq_true, not_true_eq_false, true_and, and_true, and_self, if_true, if_false, p1.o, p2.o, p2.g0, hT', cl58 h58, cl63 h63, cl61 h61, cl44 h44, hm, h0]
        exact ih _
      · rw [h0, if_pos rfl, if_neg (by decide)] at ih
        simp (disch := first | assumption | omega) only [e64_0, e64_1, e64_3, e64_4, e64_8, e64_9, e64_12, e64_15, e64_16, e64_17, e64_19, e64_22, e64_25, e64_26, e64_27, e64_29, e64_30, e64_33, e64_36, e64_37, e64_39, e64_41, e64_42, e64_45, e64_48, e64_49, e64_51, e64_52, e64_54, e64_57, e64_58, e64_61, e64_62, e64_64, e64_65, e64_68, e64_69, e64_70, e64_72, e64_75, e64_78, e64_81, e64_84, e64_86, q_gv0, q_gvs, q_isI1, q_isA1, q_hs0, q_hsn, q_hsi, q_hsr, q_hss, q_inc1, List.set_cons_zero, List.set_cons_succ, ↓reduceIte, q_ss0, q_ssi, q_ssr, q_nr0, q_nr10, q_nr11, q_tlS, q_tlN, q_cl, q_let, q_lef, q_ltt, q_ltf, q_eqt, q_eqf, q_add, q_mul, Nat.reduceAdd, Nat.reduceLeDiff, Nat.reduceEqDiff, eq_self, Nat.zero_le, Nat.le_refl, not_false_eq_true, not_true_eq_false, true_and, and_true, and_self, if_true, if_false, p1.o, p2.o, p2.g0, hT', cl58 h58, cl63 h63, cl61 h61, cl44 h44, hm, h0]
        exact ih _
    · have ho : toF N c a p w t = 1 := if_neg hm
      unfold tsM at ih
      rw [ho, if_neg (by decide), if_neg (by decide)] at ih
      simp (disch := first | assumption | omega) only [e64_0, e64_1, e64_3, e64_4, e64_8, e64_9, e64_12, e64_15, e64_16, e64_17, e64_19, e64_22, e64_25, e64_26, e64_27, e64_29, e64_30, e64_33, e64_36, e64_37, e64_39, e64_41, e64_42, e64_45, e64_48, e64_49, e64_51, e64_52, e64_54, e64_57, e64_58, e64_61, e64_62, e64_64, e64_65, e64_68, e64_69, e64_70, e64_72, e64_75, e64_78, e64_81, e64_84, e64_86, q_gv0, q_gvs, q_isI1, q_isA1, q_hs0, q_hsn, q_hsi, q_hsr, q_hss, q_inc1, List.set_cons_zero, List.set_cons_succ, ↓reduceIte, q_ss0, q_ssi, q_ssr, q_nr0, q_nr10, q_nr11, q_tlS, q_tlN, q_cl, q_let, q_lef, q_ltt, q_ltf, q_eqt, q_eqf, q_add, q_mul, Nat.reduceAdd, Nat.reduceLeDiff, Nat.reduceEqDiff, eq_self, Nat.zero_le, Nat.le_refl, not_false_eq_true, not_true_eq_false, true_and, and_true, and_self, if_true, if_false, p1.o, p2.o, p2.g0, hT', cl58 h58, cl61 h61, cl44 h44, hm]
      exact ih _
def sp64 : mv_Sp := fun As sh M Q => ∃ (c : Nat) (a : Nat) (p : Nat) (w : Nat), As = [.ref c, .ref a, .int (nI p), .int (nI w)] ∧ ((oC sh c) ∧ (oL sh a) ∧ (p < 6) ∧ (w < 2) ∧ (a + 6 < c) ∧ (gL M a)) ∧ Q (some (.int (nI (tjF M c a p w (M a 0).toNatClampNeg)))) (sh) (trM M c a p w (M a 0).toNatClampNeg)
theorem cl64 {S : Nat → mv_Sp} (hS : S 64 = sp64) {sh : mv_Shp} {M : mv_Mem} {c : Nat} {a : Nat} {p : Nat} {w : Nat} (p1 : oC sh c) (p2 : oL sh a) (p3 : p < 6) (p4 : w < 2) (p5 : a + 6 < c) (p6 : gL M a) {K : mv_Kt} {pc : Nat} {L : mv_Loc} {st : List Value} {cc_ ss_ : Nat} : mv_kal S 64 [.ref c, .ref a, .int (nI p), .int (nI w)] sh M K pc L st cc_ ss_ = K pc L ((some (.int (nI (tjF M c a p w (M a 0).toNatClampNeg))) : Option Value).toList ++ st) (sh) (trM M c a p w (M a 0).toNatClampNeg) cc_ ss_ := by
  refine q_kal (fun F => q_cali (fun Q => ?_))
  rw [hS]
  constructor
  · rintro ⟨c', a', p', w', hE, ⟨zp1, zp2, zp3, zp4, zp5, zp6⟩, hQ⟩
    simp only [List.cons.injEq, Value.ref.injEq, Value.int.injEq, Value.long.injEq, and_true, true_and] at hE
    obtain ⟨rfl, rfl, e_p, e_w⟩ := hE
    have z_p := nI_inj e_p (by omega) (by omega)
    subst z_p
    have z_w := nI_inj e_w (by omega) (by omega)
    subst z_w
    exact hQ
  · intro hQ
    exact ⟨c, a, p, w, rfl, ⟨p1, p2, p3, p4, p5, p6⟩, hQ⟩
theorem ct64 {S : Nat → mv_Sp} (h44 : S 44 = sp44) (h58 : S 58 = sp58) (h61 : S 61 = sp61) (h63 : S 63 = sp63) : ∀ As sh M P, sp64 As sh M P → (mv_al0 As).length ≤ 7 ∧ mr64 S P 0 (mv_ent As 7) [] sh M 0 0 := by
  rintro As sh M P ⟨c, a, p, w, rfl, ⟨p1, p2, p3, p4, p5, p6⟩, hQ⟩
  refine ⟨Nat.le_of_ble_eq_true rfl, ?_⟩
  show mr64 S P 0 [some (.ref c), some (.ref a), some (.int (nI p)), some (.int (nI w)), none, none, none] [] sh M 0 0
  obtain ⟨nT, h6, hT⟩ := p6.1
  rw [hT, q_cl (by omega)] at hQ
  simp (disch := first | assumption | omega) only [e64_0, e64_1, e64_3, e64_4, q_gv0, q_gvs, q_isI1, q_isA1, q_hs0, q_hsn, q_hsi, q_hsr, q_hss, q_inc1, List.set_cons_zero, List.set_cons_succ, ↓reduceIte, q_ss0, q_ssi, q_ssr, q_nr0, q_nr10, q_nr11, q_tlS, q_tlN, q_cl, q_let, q_lef, q_ltt, q_ltf, q_eqt, q_eqf, q_add, q_mul, Nat.reduceAdd, Nat.reduceLeDiff, Nat.reduceEqDiff, eq_self, Nat.zero_le, Nat.le_refl, not_false_eq_true, not_true_eq_false, true_and, and_true, and_self, if_true, if_false]
  exact lp64 h44 h58 h61 h63 p1 p2 p3 p4 p5 p6 hT h6 hQ nT 0 (by omega) none
