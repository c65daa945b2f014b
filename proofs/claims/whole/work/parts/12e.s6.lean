/-! what a text tells, laid into the reader's loom -/
theorem q_upupN {M : mv_Mem} {a i b j : Nat} {x y : Int32} : mv_up (mv_up M a i x) b j y = mv_up (mv_up M a i x) b j y := rfl
def sp36 : mv_Sp := fun As sh M Q => ∃ (x : Nat), As = [.int (nI x)] ∧ ((x < 128)) ∧ Q (some (.int (if x = 102 then nI 0 else if x = 98 then nI 1 else Int32.ofInt (-1)))) (sh) (M)
theorem cl36 {S : Nat → mv_Sp} (hS : S 36 = sp36) {sh : mv_Shp} {M : mv_Mem} {x : Nat} (p1 : x < 128) {K : mv_Kt} {pc : Nat} {L : mv_Loc} {st : List Value} {cc_ ss_ : Nat} : mv_kal S 36 [.int (nI x)] sh M K pc L st cc_ ss_ = K pc L ((some (.int (if x = 102 then nI 0 else if x = 98 then nI 1 else Int32.ofInt (-1))) : Option Value).toList ++ st) (sh) (M) cc_ ss_ := by
  refine q_kal (fun F => q_cali (fun Q => ?_))
  rw [hS]
  constructor
  · rintro ⟨x', hE, zp1, hQ⟩
    simp only [List.cons.injEq, Value.ref.injEq, Value.int.injEq, Value.long.injEq, and_true, true_and] at hE
    have e_x := hE
    have z_x := nI_inj e_x (by omega) (by omega)
    subst z_x
    exact hQ
  · intro hQ
    exact ⟨x, rfl, p1, hQ⟩
theorem ct36 {S : Nat → mv_Sp}  : ∀ As sh M P, sp36 As sh M P → (mv_al0 As).length ≤ 1 ∧ mr36 S P 0 (mv_ent As 1) [] sh M 0 0 := by
  rintro As sh M P ⟨x, rfl, p1, hQ⟩
  refine ⟨Nat.le_of_ble_eq_true rfl, ?_⟩
  show mr36 S P 0 [some (.int (nI x))] [] sh M 0 0
  by_cases h1 : x = 102
  · rw [if_pos h1] at hQ
    simp (disch := first | assumption | omega) only [e36_0, e36_1, e36_3, e36_6, e36_7, e36_8, e36_9, e36_11, e36_14, e36_15, e36_18, e36_19, q_gv0, q_gvs, q_isI1, q_isA1, q_hs0, q_hsn, q_hsi, q_hsr, q_hss, q_inc1, List.set_cons_zero, List.set_cons_succ, ↓reduceIte, q_ss0, q_ssi, q_ssr, q_nr0, q_nr10, q_nr11, q_tlS, q_tlN, q_cl, q_let, q_lef, q_ltt, q_ltf, q_eqt, q_eqf, q_add, q_mul, Nat.reduceAdd, Nat.reduceLeDiff, Nat.reduceEqDiff, eq_self, Nat.zero_le, Nat.le_refl, not_false_eq_true, not_true_eq_false, true_and, and_true, and_self, if_true, if_false]
    exact hQ
  · rw [if_neg h1] at hQ
    by_cases h2 : x = 98
    · rw [if_pos h2] at hQ
      simp (disch := first | assumption | omega) only [e36_0, e36_1, e36_3, e36_6, e36_7, e36_8, e36_9, e36_11, e36_14, e36_15, e36_18, e36_19, q_gv0, q_gvs, q_isI1, q_isA1, q_hs0, q_hsn, q_hsi, q_hsr, q_hss, q_inc1, List.set_cons_zero, List.set_cons_succ, ↓reduceIte, q_ss0, q_ssi, q_ssr, q_nr0, q_nr10, q_nr11, q_tlS, q_tlN, q_cl, q_let, q_lef, q_ltt, q_ltf, q_eqt, q_eqf, q_add, q_mul, Nat.reduceAdd, Nat.reduceLeDiff, Nat.reduceEqDiff, eq_self, Nat.zero_le, Nat.le_refl, not_false_eq_true, not_true_eq_false, true_and, and_true, and_self, if_true, if_false]
      exact hQ
    · rw [if_neg h2] at hQ
      simp (disch := first | assumption | omega) only [e36_0, e36_1, e36_3, e36_6, e36_7, e36_8, e36_9, e36_11, e36_14, e36_15, e36_18, e36_19, q_gv0, q_gvs, q_isI1, q_isA1, q_hs0, q_hsn, q_hsi, q_hsr, q_hss, q_inc1, List.set_cons_zero, List.set_cons_succ, ↓reduceIte, q_ss0, q_ssi, q_ssr, q_nr0, q_nr10, q_nr11, q_tlS, q_tlN, q_cl, q_let, q_lef, q_ltt, q_ltf, q_eqt, q_eqf, q_add, q_mul, Nat.reduceAdd, Nat.reduceLeDiff, Nat.reduceEqDiff, eq_self, Nat.zero_le, Nat.le_refl, not_false_eq_true, not_true_eq_false, true_and, and_true, and_self, if_true, if_false]
      exact hQ
def sp33 : mv_Sp := fun As sh M Q => ∃ (a : Nat) (s : Int32), As = [.ref a, .int s] ∧ ((oL sh a) ∧ (∃ n, n < 7 ∧ M a 1 = nI n)) ∧ Q (some (.int (if (M a 1).toNatClampNeg = 6 then nI 0 else nI 1))) (sh) (if (M a 1).toNatClampNeg = 6 then M else mv_up (mv_up M (a + 5) (M a 1).toNatClampNeg s) a 1 (nI ((M a 1).toNatClampNeg + 1)))
theorem cl33 {S : Nat → mv_Sp} (hS : S 33 = sp33) {sh : mv_Shp} {M : mv_Mem} {a : Nat} {s : Int32} (p1 : oL sh a) (p2 : ∃ n, n < 7 ∧ M a 1 = nI n) {K : mv_Kt} {pc : Nat} {L : mv_Loc} {st : List Value} {cc_ ss_ : Nat} : mv_kal S 33 [.ref a, .int s] sh M K pc L st cc_ ss_ = K pc L ((some (.int (if (M a 1).toNatClampNeg = 6 then nI 0 else nI 1)) : Option Value).toList ++ st) (sh) (if (M a 1).toNatClampNeg = 6 then M else mv_up (mv_up M (a + 5) (M a 1).toNatClampNeg s) a 1 (nI ((M a 1).toNatClampNeg + 1))) cc_ ss_ := by
  refine q_kal (fun F => q_cali (fun Q => ?_))
  rw [hS]
  constructor
  · rintro ⟨a', s', hE, ⟨zp1, zp2⟩, hQ⟩
    simp only [List.cons.injEq, Value.ref.injEq, Value.int.injEq, Value.long.injEq, and_true, true_and] at hE
    obtain ⟨rfl, rfl⟩ := hE
    exact hQ
  · intro hQ
    exact ⟨a, s, rfl, ⟨p1, p2⟩, hQ⟩
theorem ct33 {S : Nat → mv_Sp}  : ∀ As sh M P, sp33 As sh M P → (mv_al0 As).length ≤ 2 ∧ mr33 S P 0 (mv_ent As 2) [] sh M 0 0 := by
  rintro As sh M P ⟨a, s, rfl, ⟨p1, p2⟩, hQ⟩
  refine ⟨Nat.le_of_ble_eq_true rfl, ?_⟩
  show mr33 S P 0 [some (.ref a), some (.int s)] [] sh M 0 0
  obtain ⟨n, hn, hN⟩ := p2
  rw [hN, q_cl (show n < 2147483648 by omega)] at hQ
  by_cases h : n = 6
  · rw [if_pos h, if_pos h] at hQ
    subst h
    simp (disch := first | assumption | omega) only [e33_0, e33_1, e33_4, e33_6, e33_9, e33_10, e33_11, e33_12, e33_15, e33_16, e33_19, e33_20, e33_21, e33_22, e33_22r, e33_23, e33_26, e33_27, e33_28, e33_31, e33_32, q_gv0, q_gvs, q_isI1, q_isA1, q_hs0, q_hsn, q_hsi, q_hsr, q_hss, q_inc1, List.set_cons_zero, List.set_cons_succ, ↓reduceIte, q_ss0, q_ssi, q_ssr, q_nr0, q_nr10, q_nr11, q_tlS, q_tlN, q_cl, q_let, q_lef, q_ltt, q_ltf, q_eqt, q_eqf, q_add, q_mul, Nat.reduceAdd, Nat.reduceLeDiff, Nat.reduceEqDiff, eq_self, Nat.zero_le, Nat.le_refl, not_false_eq_true, not_true_eq_false, true_and, and_true, and_self, if_true, if_false, p1.g1, hN]
    exact hQ
  · rw [if_neg h, if_neg h] at hQ
    simp (disch := first | assumption | omega) only [e33_0, e33_1, e33_4, e33_6, e33_9, e33_10, e33_11, e33_12, e33_15, e33_16, e33_19, e33_20, e33_21, e33_22, e33_22r, e33_23, e33_26, e33_27, e33_28, e33_31, e33_32, q_gv0, q_gvs, q_isI1, q_isA1, q_hs0, q_hsn, q_hsi, q_hsr, q_hss, q_inc1, List.set_cons_zero, List.set_cons_succ, ↓reduceIte, q_ss0, q_ssi, q_ssr, q_nr0, q_nr10, q_nr11, q_tlS, q_tlN, q_cl, q_let, q_lef, q_ltt, q_ltf, q_eqt, q_eqf, q_add, q_mul, Nat.reduceAdd, Nat.reduceLeDiff, Nat.reduceEqDiff, eq_self, Nat.zero_le, Nat.le_refl, not_false_eq_true, not_true_eq_false, true_and, and_true, and_self, if_true, if_false, p1.g1, p1.g8, p1.s5, p1.p1, hN, q_upO]
    exact hQ
def sp37 : mv_Sp := fun As sh M Q => ∃ (a : Nat) (q : Nat) (w : Nat), As = [.ref a, .int (nI q), .int (nI w)] ∧ ((oL sh a) ∧ (∃ n, n < 9 ∧ M a 2 = nI n) ∧ (q < 6) ∧ (w < 2)) ∧ Q (some (.int (if (M a 2).toNatClampNeg = 8 then nI 0 else nI 1))) (sh) (if (M a 2).toNatClampNeg = 8 then M else mv_up (mv_up M (a + 6) (M a 2).toNatClampNeg (nI (10 * q + w))) a 2 (nI ((M a 2).toNatClampNeg + 1)))
theorem cl37 {S : Nat → mv_Sp} (hS : S 37 = sp37) {sh : mv_Shp} {M : mv_Mem} {a : Nat} {q : Nat} {w : Nat} (p1 : oL sh a) (p2 : ∃ n, n < 9 ∧ M a 2 = nI n) (p3 : q < 6) (p4 : w < 2) {K : mv_Kt} {pc : Nat} {L : mv_Loc} {st : List Value} {cc_ ss_ : Nat} : mv_kal S 37 [.ref a, .int (nI q), .int (nI w)] sh M K pc L st cc_ ss_ = K pc L ((some (.int (if (M a 2).toNatClampNeg = 8 then nI 0 else nI 1)) : Option Value).toList ++ st) (sh) (if (M a 2).toNatClampNeg = 8 then M else mv_up (mv_up M (a + 6) (M a 2).toNatClampNeg (nI (10 * q + w))) a 2 (nI ((M a 2).toNatClampNeg + 1))) cc_ ss_ := by
  refine q_kal (fun F => q_cali (fun Q => ?_))
  rw [hS]
  constructor
  · rintro ⟨a', q', w', hE, ⟨zp1, zp2, zp3, zp4⟩, hQ⟩
    simp only [List.cons.injEq, Value.ref.injEq, Value.int.injEq, Value.long.injEq, and_true, true_and] at hE
    obtain ⟨rfl, e_q, e_w⟩ := hE
    have z_q := nI_inj e_q (by omega) (by omega)
    subst z_q
    have z_w := nI_inj e_w (by omega) (by omega)
    subst z_w
    exact hQ
  · intro hQ
    exact ⟨a, q, w, rfl, ⟨p1, p2, p3, p4⟩, hQ⟩
theorem ct37 {S : Nat → mv_Sp}  : ∀ As sh M P, sp37 As sh M P → (mv_al0 As).length ≤ 3 ∧ mr37 S P 0 (mv_ent As 3) [] sh M 0 0 := by
  rintro As sh M P ⟨a, q, w, rfl, ⟨p1, p2, p3, p4⟩, hQ⟩
  refine ⟨Nat.le_of_ble_eq_true rfl, ?_⟩
  show mr37 S P 0 [some (.ref a), some (.int (nI q)), some (.int (nI w))] [] sh M 0 0
  obtain ⟨n, hn, hN⟩ := p2
  rw [hN, q_cl (show n < 2147483648 by omega)] at hQ
  by_cases h : n = 8
  · rw [if_pos h, if_pos h] at hQ
    subst h
    simp (disch := first | assumption | omega) only [e37_0, e37_1, e37_4, e37_6, e37_9, e37_10, e37_11, e37_12, e37_15, e37_16, e37_19, e37_21, e37_22, e37_23, e37_24, e37_25, e37_26, e37_27, e37_27r, e37_28, e37_31, e37_32, e37_33, e37_36, e37_37, q_gv0, q_gvs, q_isI1, q_isA1, q_hs0, q_hsn, q_hsi, q_hsr, q_hss, q_inc1, List.set_cons_zero, List.set_cons_succ, ↓reduceIte, q_ss0, q_ssi, q_ssr, q_nr0, q_nr10, q_nr11, q_tlS, q_tlN, q_cl, q_let, q_lef, q_ltt, q_ltf, q_eqt, q_eqf, q_add, q_mul, Nat.reduceAdd, Nat.reduceLeDiff, Nat.reduceEqDiff, eq_self, Nat.zero_le, Nat.le_refl, not_false_eq_true, not_true_eq_false, true_and, and_true, and_self, if_true, if_false, p1.g2, hN]
    exact hQ
  · rw [if_neg h, if_neg h] at hQ
    simp (disch := first | assumption | omega) only [e37_0, e37_1, e37_4, e37_6, e37_9, e37_10, e37_11, e37_12, e37_15, e37_16, e37_19, e37_21, e37_22, e37_23, e37_24, e37_25, e37_26, e37_27, e37_27r, e37_28, e37_31, e37_32, e37_33, e37_36, e37_37, q_gv0, q_gvs, q_isI1, q_isA1, q_hs0, q_hsn, q_hsi, q_hsr, q_hss, q_inc1, List.set_cons_zero, List.set_cons_succ, ↓reduceIte, q_ss0, q_ssi, q_ssr, q_nr0, q_nr10, q_nr11, q_tlS, q_tlN, q_cl, q_let, q_lef, q_ltt, q_ltf, q_eqt, q_eqf, q_add, q_mul, Nat.reduceAdd, Nat.reduceLeDiff, Nat.reduceEqDiff, eq_self, Nat.zero_le, Nat.le_refl, not_false_eq_true, not_true_eq_false, true_and, and_true, and_self, if_true, if_false, p1.g2, p1.g9, p1.s6, p1.p2, hN, q_upO]
    exact hQ
def sp18 : mv_Sp := fun As sh M Q => ∃ (a : Nat), As = [.ref a] ∧ ((oL sh a)) ∧ Q (none) (sh) (mv_up (mv_up (mv_up (mv_up M a 0 (nI 0)) a 1 (nI 0)) a 2 (nI 0)) a 3 (nI 20))
theorem cl18 {S : Nat → mv_Sp} (hS : S 18 = sp18) {sh : mv_Shp} {M : mv_Mem} {a : Nat} (p1 : oL sh a) {K : mv_Kt} {pc : Nat} {L : mv_Loc} {st : List Value} {cc_ ss_ : Nat} : mv_kal S 18 [.ref a] sh M K pc L st cc_ ss_ = K pc L ((none : Option Value).toList ++ st) (sh) (mv_up (mv_up (mv_up (mv_up M a 0 (nI 0)) a 1 (nI 0)) a 2 (nI 0)) a 3 (nI 20)) cc_ ss_ := by
  refine q_kal (fun F => q_cali (fun Q => ?_))
  rw [hS]
  constructor
  · rintro ⟨a', hE, zp1, hQ⟩
    simp only [List.cons.injEq, Value.ref.injEq, Value.int.injEq, Value.long.injEq, and_true, true_and] at hE
    subst hE
    exact hQ
  · intro hQ
    exact ⟨a, rfl, p1, hQ⟩
theorem ct18 {S : Nat → mv_Sp}  : ∀ As sh M P, sp18 As sh M P → (mv_al0 As).length ≤ 1 ∧ mr18 S P 0 (mv_ent As 1) [] sh M 0 0 := by
  rintro As sh M P ⟨a, rfl, p1, hQ⟩
  refine ⟨Nat.le_of_ble_eq_true rfl, ?_⟩
  show mr18 S P 0 [some (.ref a)] [] sh M 0 0
  simp (disch := first | assumption | omega) only [e18_0, e18_1, e18_2, e18_5, e18_6, e18_7, e18_10, e18_11, e18_12, e18_15, e18_16, e18_18, e18_21, q_gv0, q_gvs, q_isI1, q_isA1, q_hs0, q_hsn, q_hsi, q_hsr, q_hss, q_inc1, List.set_cons_zero, List.set_cons_succ, ↓reduceIte, q_ss0, q_ssi, q_ssr, q_nr0, q_nr10, q_nr11, q_tlS, q_tlN, q_cl, q_let, q_lef, q_ltt, q_ltf, q_eqt, q_eqf, q_add, q_mul, Nat.reduceAdd, Nat.reduceLeDiff, Nat.reduceEqDiff, eq_self, Nat.zero_le, Nat.le_refl, not_false_eq_true, not_true_eq_false, true_and, and_true, and_self, if_true, if_false, p1.p0, p1.p1, p1.p2, p1.p3]
  exact hQ
/-- the first hole of the same colour -/
def faF (g : Nat → Int32) (h : Nat) : Nat → Nat
  | 0 => h
  | n + 1 => if g (h - (n + 1)) = g h then h - (n + 1) else faF g h n
theorem faF_le (g : Nat → Int32) (h : Nat) : ∀ n, faF g h n ≤ h
  | 0 => Nat.le_refl _
  | n + 1 => by
    unfold faF
    split
    · omega
    · exact faF_le g h n
theorem lp30 {S : Nat → mv_Sp} (h29 : S 29 = sp29) {sh : mv_Shp} {M : mv_Mem} {P : mv_Post} {a t h : Nat} (p1 : oL sh a) (p2 : t < 6) (p3 : h < 4) :
    ∀ n i, i + n = h → P (some (.int (nI (faF (fun h => M (a + 3) (t * 4 + h)) h n)))) sh M → mr30 S P 2 [some (.ref a), some (.int (nI t)), some (.int (nI h)), some (.int (nI i))] [] sh M 0 0
  | 0, i, hi, hQ => by
    obtain rfl : i = h := by omega
    rw [e30_2]
    simp (disch := first | assumption | omega) only [e30_0, e30_1, e30_3, e30_4, e30_7, e30_8, e30_9, e30_10, e30_13, e30_14, e30_15, e30_16, e30_19, e30_22, e30_23, e30_24, e30_27, e30_30, e30_31, q_gv0, q_gvs, q_isI1, q_isA1, q_hs0, q_hsn, q_hsi, q_hsr, q_hss, q_inc1, List.set_cons_zero, List.set_cons_succ, ↓reduceIte, q_ss0, q_ssi, q_ssr, q_nr0, q_nr10, q_nr11, q_tlS, q_tlN, q_cl, q_let, q_lef, q_ltt, q_ltf, q_eqt, q_eqf, q_add, q_mul, Nat.reduceAdd, Nat.reduceLeDiff, Nat.reduceEqDiff, eq_self, Nat.zero_le, Nat.le_refl, not_false_eq_true, not_true_eq_false, true_and, and_true, and_self, if_true, if_false]
    exact hQ
  | n + 1, i, hi, hQ => by
    rw [e30_2]
    have ei : h - (n + 1) = i := by omega
    unfold faF at hQ
    rw [ei] at hQ
    by_cases hc : M (a + 3) (t * 4 + i) = M (a + 3) (t * 4 + h)
    · rw [if_pos hc] at hQ
      simp (disch := first | assumption | omega) only [e30_0, e30_1, e30_3, e30_4, e30_7, e30_8, e30_9, e30_10, e30_13, e30_14, e30_15, e30_16, e30_19, e30_22, e30_23, e30_24, e30_27, e30_30, e30_31, q_gv0, q_gvs, q_isI1, q_isA1, q_hs0, q_hsn, q_hsi, q_hsr, q_hss, q_inc1, List.set_cons_zero, List.set_cons_succ, ↓reduceIte, q_ss0, q_ssi, q_ssr, q_nr0, q_nr10, q_nr11, q_tlS, q_tlN, q_cl, q_let, q_lef, q_ltt, q_ltf, q_eqt, q_eqf, q_add, q_mul, Nat.reduceAdd, Nat.reduceLeDiff, Nat.reduceEqDiff, eq_self, Nat.zero_le, Nat.le_refl, not_false_eq_true, not_true_eq_false, true_and, and_true, and_self, if_true, if_false, p1.o, cl29 h29, hc]
      exact hQ
    · rw [if_neg hc] at hQ
      simp (disch := first | assumption | omega) only [e30_0, e30_1, e30_3, e30_4, e30_7, e30_8, e30_9, e30_10, e30_13, e30_14, e30_15, e30_16, e30_19, e30_22, e30_23, e30_24, e30_27, e30_30, e30_31, q_gv0, q_gvs, q_isI1, q_isA1, q_hs0, q_hsn, q_hsi, q_hsr, q_hss, q_inc1, List.set_cons_zero, List.set_cons_succ, ↓reduceIte, q_ss0, q_ssi, q_ssr, q_nr0, q_nr10, q_nr11, q_tlS, q_tlN, q_cl, q_let, q_lef, q_ltt, q_ltf, q_eqt, q_eqf, q_add, q_mul, Nat.reduceAdd, Nat.reduceLeDiff, Nat.reduceEqDiff, eq_self, Nat.zero_le, Nat.le_refl, not_false_eq_true, not_true_eq_false, true_and, and_true, and_self, if_true, if_false, p1.o, cl29 h29, hc]
      exact lp30 h29 p1 p2 p3 n (i + 1) (by omega) hQ
def sp30 : mv_Sp := fun As sh M Q => ∃ (a : Nat) (t : Nat) (h : Nat), As = [.ref a, .int (nI t), .int (nI h)] ∧ ((oL sh a) ∧ (t < 6) ∧ (h < 4)) ∧ Q (some (.int (nI (faF (fun h => M (a + 3) (t * 4 + h)) h h)))) (sh) (M)
theorem cl30 {S : Nat → mv_Sp} (hS : S 30 = sp30) {sh : mv_Shp} {M : mv_Mem} {a : Nat} {t : Nat} {h : Nat} (p1 : oL sh a) (p2 : t < 6) (p3 : h < 4) {K : mv_Kt} {pc : Nat} {L : mv_Loc} {st : List Value} {cc_ ss_ : Nat} : mv_kal S 30 [.ref a, .int (nI t), .int (nI h)] sh M K pc L st cc_ ss_ = K pc L ((some (.int (nI (faF (fun h => M (a + 3) (t * 4 + h)) h h))) : Option Value).toList ++ st) (sh) (M) cc_ ss_ := by
  refine q_kal (fun F => q_cali (fun Q => ?_))
  rw [hS]
  constructor
  · rintro ⟨a', t', h', hE, ⟨zp1, zp2, zp3⟩, hQ⟩
    simp only [List.cons.injEq, Value.ref.injEq, Value.int.injEq, Value.long.injEq, and_true, true_and] at hE
    obtain ⟨rfl, e_t, e_h⟩ := hE
    have z_t := nI_inj e_t (by omega) (by omega)
    subst z_t
    have z_h := nI_inj e_h (by omega) (by omega)
    subst z_h
    exact hQ
  · intro hQ
    exact ⟨a, t, h, rfl, ⟨p1, p2, p3⟩, hQ⟩
theorem ct30 {S : Nat → mv_Sp} (h29 : S 29 = sp29) : ∀ As sh M P, sp30 As sh M P → (mv_al0 As).length ≤ 4 ∧ mr30 S P 0 (mv_ent As 4) [] sh M 0 0 := by
  rintro As sh M P ⟨a, t, h, rfl, ⟨p1, p2, p3⟩, hQ⟩
  refine ⟨Nat.le_of_ble_eq_true rfl, ?_⟩
  show mr30 S P 0 [some (.ref a), some (.int (nI t)), some (.int (nI h)), none] [] sh M 0 0
  simp (disch := first | assumption | omega) only [e30_0, e30_1, q_gv0, q_gvs, q_isI1, q_isA1, q_hs0, q_hsn, q_hsi, q_hsr, q_hss, q_inc1, List.set_cons_zero, List.set_cons_succ, ↓reduceIte, q_ss0, q_ssi, q_ssr, q_nr0, q_nr10, q_nr11, q_tlS, q_tlN, q_cl, q_let, q_lef, q_ltt, q_ltf, q_eqt, q_eqf, q_add, q_mul, Nat.reduceAdd, Nat.reduceLeDiff, Nat.reduceEqDiff, eq_self, Nat.zero_le, Nat.le_refl, not_false_eq_true, not_true_eq_false, true_and, and_true, and_self, if_true, if_false]
  exact lp30 h29 p1 p2 p3 h 0 (by omega) hQ
/-- a tablet's threads and the rest, as addTablet lays them -/
def thM (M : mv_Mem) (a n : Nat) (kd s : Int32) (R : Nat) : mv_Mem :=
  mv_up (mv_up (mv_up (mv_up (mv_up (mv_up M (a + 1) n kd) (a + 2) n s) (a + 3) (n * 4 + 3) (nI (R % 10))) (a + 3) (n * 4 + 2) (nI (R / 10 % 10))) (a + 3) (n * 4 + 1) (nI (R / 10 / 10 % 10))) (a + 3) (n * 4 + 0) (nI (R / 10 / 10 / 10 % 10))
def atM (M : mv_Mem) (a n : Nat) (kd s : Int32) (R : Nat) : mv_Mem :=
  mv_up (mv_up (mv_up (mv_up (mv_up (thM M a n kd s R) (a + 4) (n * 4 + 0) (nI (faF (fun h => thM M a n kd s R (a + 3) (n * 4 + h)) 0 0))) (a + 4) (n * 4 + 1) (nI (faF (fun h => thM M a n kd s R (a + 3) (n * 4 + h)) 1 1)))
    (a + 4) (n * 4 + 2) (nI (faF (fun h => thM M a n kd s R (a + 3) (n * 4 + h)) 2 2))) (a + 4) (n * 4 + 3) (nI (faF (fun h => thM M a n kd s R (a + 3) (n * 4 + h)) 3 3))) a 0 (nI (n + 1))
theorem q_dec {n : Nat} : nI (n + 1) + Int32.ofInt (-1) = nI n := pk_m1 n
theorem q_dec0 : nI 0 + Int32.ofInt (-1) = Int32.ofInt (-1) := by decide
theorem q_m1lt : (Int32.ofInt (-1) < nI 0) = True := by decide
theorem q_m1lt1 : (Int32.ofInt (-1) < nI 1) = True := by decide
theorem thM_0 {M : mv_Mem} {a n : Nat} {kd s : Int32} {R : Nat} : thM M a n kd s R a 0 = M a 0 := by
  unfold thM
  simp (disch := omega) only [q_upO]
def sp31 : mv_Sp := fun As sh M Q => ∃ (a : Nat) (kd : Int32) (s : Int32) (R : Nat), As = [.ref a, .int kd, .int s, .int (nI R)] ∧ ((oL sh a) ∧ (∃ n, n < 7 ∧ M a 0 = nI n) ∧ (R < 10000)) ∧ Q (some (.int (if (M a 0).toNatClampNeg = 6 then nI 0 else nI 1))) (sh) (if (M a 0).toNatClampNeg = 6 then M else atM M a (M a 0).toNatClampNeg kd s R)
theorem cl31 {S : Nat → mv_Sp} (hS : S 31 = sp31) {sh : mv_Shp} {M : mv_Mem} {a : Nat} {kd : Int32} {s : Int32} {R : Nat} (p1 : oL sh a) (p2 : ∃ n, n < 7 ∧ M a 0 = nI n) (p3 : R < 10000) {K : mv_Kt} {pc : Nat} {L : mv_Loc} {st : List Value} {cc_ ss_ : Nat} : mv_kal S 31 [.ref a, .int kd, .int s, .int (nI R)] sh M K pc L st cc_ ss_ = K pc L ((some (.int (if (M a 0).toNatClampNeg = 6 then nI 0 else nI 1)) : Option Value).toList ++ st) (sh) (if (M a 0).toNatClampNeg = 6 then M else atM M a (M a 0).toNatClampNeg kd s R) cc_ ss_ := by
  refine q_kal (fun F => q_cali (fun Q => ?_))
  rw [hS]
  constructor
  · rintro ⟨a', kd', s', R', hE, ⟨zp1, zp2, zp3⟩, hQ⟩
    simp only [List.cons.injEq, Value.ref.injEq, Value.int.injEq, Value.long.injEq, and_true, true_and] at hE
    obtain ⟨rfl, rfl, rfl, e_R⟩ := hE
    have z_R := nI_inj e_R (by omega) (by omega)
    subst z_R
    exact hQ
  · intro hQ
    exact ⟨a, kd, s, R, rfl, ⟨p1, p2, p3⟩, hQ⟩
theorem ct31 {S : Nat → mv_Sp} (h30 : S 30 = sp30) : ∀ As sh M P, sp31 As sh M P → (mv_al0 As).length ≤ 6 ∧ mr31 S P 0 (mv_ent As 6) [] sh M 0 0 := by
  rintro As sh M P ⟨a, kd, s, R, rfl, ⟨p1, p2, p3⟩, hQ⟩
  refine ⟨Nat.le_of_ble_eq_true rfl, ?_⟩
  show mr31 S P 0 [some (.ref a), some (.int kd), some (.int s), some (.int (nI R)), none, none] [] sh M 0 0
  obtain ⟨n, hn, hN⟩ := p2
  rw [hN, q_cl (show n < 2147483648 by omega)] at hQ
  by_cases h : n = 6
  · rw [if_pos h, if_pos h] at hQ
    subst h
    simp (disch := first | assumption | omega) only [e31_0, e31_1, e31_4, e31_6, e31_9, e31_10, e31_11, e31_12, e31_15, e31_16, e31_19, e31_20, e31_21, e31_22, e31_25, e31_26, e31_29, e31_30, e31_31, e31_32, e31_34, e31_35, e31_37, e31_39, e31_42, e31_43, e31_46, e31_47, e31_50, e31_51, e31_52, e31_54, e31_55, e31_57, e31_59, e31_60, e31_61, e31_63, e31_65, e31_66, e31_68, e31_71, e31_74, e31_75, e31_77, e31_79, e31_80, e31_83, e31_84, e31_87, e31_88, e31_91, e31_92, e31_93, e31_95, e31_96, e31_97, e31_98, e31_101, e31_103, e31_106, e31_107, e31_110, e31_113, e31_114, e31_114r, e31_115, e31_118, e31_119, e31_120, e31_123, e31_124, q_gv0, q_gvs, q_isI1, q_isA1, q_hs0, q_hsn, q_hsi, q_hsr, q_hss, q_inc1, List.set_cons_zero, List.set_cons_succ, ↓reduceIte, q_ss0, q_ssi, q_ssr, q_nr0, q_nr10, q_nr11, q_tlS, q_tlN, q_cl, q_let, q_lef, q_ltt, q_ltf, q_eqt, q_eqf, q_add, q_mul, Nat.reduceAdd, Nat.reduceLeDiff, Nat.reduceEqDiff, eq_self, Nat.zero_le, Nat.le_refl, not_false_eq_true, not_true_eq_false, true_and, and_true, and_self, if_true, if_false, cl30 h30, p1.g0, hN]
    exact hQ
  · rw [if_neg h, if_neg h] at hQ
    unfold atM at hQ
    have h0 := thM_0 (M := M) (a := a) (n := n) (kd := kd) (s := s) (R := R)
    rw [hN] at h0
    simp (disch := first | assumption | omega) only [e31_0, e31_1, e31_4, e31_6, e31_9, e31_10, e31_11, e31_12, e31_15, e31_16, e31_19, e31_20, e31_21, e31_22, e31_25, e31_26, e31_29, e31_30, e31_31, e31_32, e31_34, e31_35, e31_37, e31_39, e31_42, e31_43, e31_46, e31_47, e31_50, e31_51, e31_52, e31_54, e31_55, e31_57, e31_59, e31_60, e31_61, e31_63, e31_65, e31_66, e31_68, e31_71, e31_74, e31_75, e31_79, e31_80, e31_83, e31_84, e31_87, e31_88, e31_91, e31_92, e31_93, e31_95, e31_96, e31_97, e31_98, e31_101, e31_103, e31_106, e31_107, e31_110, e31_113, e31_114, e31_114r, e31_115, e31_118, e31_119, e31_120, e31_123, e31_124, q_gv0, q_gvs, q_isI1, q_isA1, q_hs0, q_hsn, q_hsi, q_hsr, q_hss, q_inc1, List.set_cons_zero, List.set_cons_succ, ↓reduceIte, q_ss0, q_ssi, q_ssr, q_nr0, q_nr10, q_nr11, q_tlS, q_tlN, q_cl, q_let, q_lef, q_ltt, q_ltf, q_eqt, q_eqf, q_add, q_mul, Nat.reduceAdd, Nat.reduceLeDiff, Nat.reduceEqDiff, eq_self, Nat.zero_le, Nat.le_refl, not_false_eq_true, not_true_eq_false, true_and, and_true, and_self, if_true, if_false, p1.g0, p1.g4, p1.g5, p1.g6, p1.s1, p1.s2, p1.s3, hN, q_upO, q_rem, q_div, q_dec, q_dec0, q_m1lt]
    have e : (mv_up (mv_up (mv_up (mv_up (mv_up (mv_up M (a + 1) n kd) (a + 2) n s) (a + 3) (n * 4 + 3) (nI (R % 10))) (a + 3) (n * 4 + 2) (nI (R / 10 % 10))) (a + 3) (n * 4 + 1) (nI (R / 10 / 10 % 10))) (a + 3) (n * 4 + 0) (nI (R / 10 / 10 / 10 % 10))) = thM M a n kd s R := rfl
    rw [e]
    generalize thM M a n kd s R = N at hQ h0 ⊢
    simp (disch := first | assumption | omega) only [e31_0, e31_1, e31_4, e31_6, e31_9, e31_10, e31_11, e31_12, e31_15, e31_16, e31_19, e31_20, e31_21, e31_22, e31_25, e31_26, e31_29, e31_30, e31_31, e31_32, e31_34, e31_35, e31_37, e31_39, e31_42, e31_43, e31_46, e31_47, e31_50, e31_51, e31_52, e31_54, e31_55, e31_57, e31_59, e31_60, e31_61, e31_63, e31_65, e31_66, e31_68, e31_71, e31_74, e31_75, e31_77, e31_79, e31_80, e31_83, e31_84, e31_87, e31_88, e31_91, e31_92, e31_93, e31_95, e31_96, e31_97, e31_98, e31_101, e31_103, e31_106, e31_107, e31_110, e31_113, e31_114, e31_114r, e31_115, e31_118, e31_119, e31_120, e31_123, e31_124, q_gv0, q_gvs, q_isI1, q_isA1, q_hs0, q_hsn, q_hsi, q_hsr, q_hss, q_inc1, List.set_cons_zero, List.set_cons_succ, ↓reduceIte, q_ss0, q_ssi, q_ssr, q_nr0, q_nr10, q_nr11, q_tlS, q_tlN, q_cl, q_let, q_lef, q_ltt, q_ltf, q_eqt, q_eqf, q_add, q_mul, Nat.reduceAdd, Nat.reduceLeDiff, Nat.reduceEqDiff, eq_self, Nat.zero_le, Nat.le_refl, not_false_eq_true, not_true_eq_false, true_and, and_true, and_self, if_true, if_false, p1.o, p1.g0, p1.g7, p1.s4, p1.p0, h0, q_upO, cl30 h30]
    exact hQ
