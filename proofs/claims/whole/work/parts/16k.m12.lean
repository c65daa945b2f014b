/-! the model: small public ones -/
theorem lt_sub1 : ∀ (n : Nat) (x : Int32), n < 1000001 → ((nI n - nI 1 < x) = (nI n ≤ x)) := by
  intro n x hn
  apply propext
  rw [Int32.lt_iff_toInt_lt, Int32.le_iff_toInt_le]
  have e1 : (nI n).toInt = (n : Int) := nI_toInt (by omega)
  have e2 : (nI n - nI 1).toInt = (n : Int) - 1 := by
    rcases Nat.eq_zero_or_pos n with h | h
    · subst h; decide
    · rw [pk_sub (by omega), nI_toInt (by omega)]
      omega
  rw [e1, e2]
  omega
theorem in_0 {n : Nat} {x : Int32} (hn : n < 1000001) : nI (inN x (nI 0) (nI n - nI 1)) = if x < nI 0 then nI 0 else if nI n ≤ x then nI 0 else nI 1 := by
  unfold inN
  simp only [lt_sub1 n x hn]
  split
  · rfl
  · split <;> rfl
theorem in_01 (x a b : Int32) : mv_nr 1 (nI (inN x a b)) = True := q_nrB (inN_01 x a b)
def sp181 : mv_Sp := fun As sh M Q => ∃ (x : Int32), As = [.ref 0, .int x] ∧ ((oM sh) ∧ (∃ n, n ≤ 6 ∧ M 0 3 = nI n)) ∧ Q (some (.int (if x < nI 0 then nI 0 else if M 0 3 ≤ x then nI 0 else nI 1))) (sh) (M)
theorem cl181 {S : Nat → mv_Sp} (hS : S 181 = sp181) {sh : mv_Shp} {M : mv_Mem} {x : Int32} (p1 : oM sh) (p2 : ∃ n, n ≤ 6 ∧ M 0 3 = nI n) {K : mv_Kt} {pc : Nat} {L : mv_Loc} {st : List Value} {cc_ ss_ : Nat} : mv_kal S 181 [.ref 0, .int x] sh M K pc L st cc_ ss_ = K pc L ((some (.int (if x < nI 0 then nI 0 else if M 0 3 ≤ x then nI 0 else nI 1)) : Option Value).toList ++ st) (sh) (M) cc_ ss_ := by
  refine q_kal (fun F => q_cali (fun Q => ?_))
  rw [hS]
  constructor
  · rintro ⟨x', hE, ⟨zp1, zp2⟩, hQ⟩
    simp only [List.cons.injEq, Value.ref.injEq, Value.int.injEq, Value.long.injEq, and_true, true_and] at hE
    subst hE
    exact hQ
  · intro hQ
    exact ⟨x, rfl, ⟨p1, p2⟩, hQ⟩
theorem ct181 {S : Nat → mv_Sp} (h144 : S 144 = sp144) : ∀ As sh M P, sp181 As sh M P → (mv_al0 As).length ≤ 2 ∧ mr181 S P 0 (mv_ent As 2) [] sh M 0 0 := by
  rintro As sh M P ⟨x, rfl, ⟨p1, p2⟩, hQ⟩
  refine ⟨Nat.le_of_ble_eq_true rfl, ?_⟩
  show mr181 S P 0 [some (.ref 0), some (.int x)] [] sh M 0 0
  obtain ⟨n, hn, hN⟩ := p2
  rw [hN, ← in_0 (by omega)] at hQ
  simp (disch := first | assumption | omega) only [e181_0, e181_1, e181_2, e181_3, e181_4, e181_7, e181_8, e181_9, e181_10, e181_13, q_gv0, q_gvs, q_isI1, q_isA1, q_hs0, q_hsn, q_hsi, q_hsr, q_hss, q_inc1, List.set_cons_zero, List.set_cons_succ, ↓reduceIte, q_ss0, q_ssi, q_ssr, q_nr0, q_nr10, q_nr11, q_tlS, q_tlN, q_cl, q_let, q_lef, q_ltt, q_ltf, q_eqt, q_eqf, q_add, q_mul, Nat.reduceAdd, Nat.reduceLeDiff, Nat.reduceEqDiff, eq_self, Nat.zero_le, Nat.le_refl, not_false_eq_true, not_true_eq_false, true_and, and_true, and_self, if_true, if_false, q_isL1, q_lc, cr144 h144, p1.g3, hN, in_01]
  exact hQ
def sp193 : mv_Sp := fun As sh M Q => ∃ (x : Int32), As = [.ref 0, .int x] ∧ ((oM sh) ∧ (∃ n, n ≤ 6 ∧ M 0 7 = nI n)) ∧ Q (some (.int (if x < nI 0 then nI 0 else if M 0 7 ≤ x then nI 0 else nI 1))) (sh) (M)
theorem cl193 {S : Nat → mv_Sp} (hS : S 193 = sp193) {sh : mv_Shp} {M : mv_Mem} {x : Int32} (p1 : oM sh) (p2 : ∃ n, n ≤ 6 ∧ M 0 7 = nI n) {K : mv_Kt} {pc : Nat} {L : mv_Loc} {st : List Value} {cc_ ss_ : Nat} : mv_kal S 193 [.ref 0, .int x] sh M K pc L st cc_ ss_ = K pc L ((some (.int (if x < nI 0 then nI 0 else if M 0 7 ≤ x then nI 0 else nI 1)) : Option Value).toList ++ st) (sh) (M) cc_ ss_ := by
  refine q_kal (fun F => q_cali (fun Q => ?_))
  rw [hS]
  constructor
  · rintro ⟨x', hE, ⟨zp1, zp2⟩, hQ⟩
    simp only [List.cons.injEq, Value.ref.injEq, Value.int.injEq, Value.long.injEq, and_true, true_and] at hE
    subst hE
    exact hQ
  · intro hQ
    exact ⟨x, rfl, ⟨p1, p2⟩, hQ⟩
theorem ct193 {S : Nat → mv_Sp} (h144 : S 144 = sp144) : ∀ As sh M P, sp193 As sh M P → (mv_al0 As).length ≤ 2 ∧ mr193 S P 0 (mv_ent As 2) [] sh M 0 0 := by
  rintro As sh M P ⟨x, rfl, ⟨p1, p2⟩, hQ⟩
  refine ⟨Nat.le_of_ble_eq_true rfl, ?_⟩
  show mr193 S P 0 [some (.ref 0), some (.int x)] [] sh M 0 0
  obtain ⟨n, hn, hN⟩ := p2
  rw [hN, ← in_0 (by omega)] at hQ
  simp (disch := first | assumption | omega) only [e193_0, e193_1, e193_2, e193_3, e193_4, e193_7, e193_8, e193_9, e193_10, e193_13, q_gv0, q_gvs, q_isI1, q_isA1, q_hs0, q_hsn, q_hsi, q_hsr, q_hss, q_inc1, List.set_cons_zero, List.set_cons_succ, ↓reduceIte, q_ss0, q_ssi, q_ssr, q_nr0, q_nr10, q_nr11, q_tlS, q_tlN, q_cl, q_let, q_lef, q_ltt, q_ltf, q_eqt, q_eqf, q_add, q_mul, Nat.reduceAdd, Nat.reduceLeDiff, Nat.reduceEqDiff, eq_self, Nat.zero_le, Nat.le_refl, not_false_eq_true, not_true_eq_false, true_and, and_true, and_self, if_true, if_false, q_isL1, q_lc, cr144 h144, p1.g7, hN, in_01]
  exact hQ
theorem in_w (x : Int32) : nI (inN x (nI 0) (nI 1)) = if x = nI 0 then nI 1 else if x = nI 1 then nI 1 else nI 0 := by
  unfold inN
  by_cases c1 : x < nI 0
  · rw [if_pos c1, if_neg (fun z => by rw [z] at c1; exact absurd c1 (by decide)), if_neg (fun z => by rw [z] at c1; exact absurd c1 (by decide))]
  rw [if_neg c1]
  by_cases c2 : nI 1 < x
  · rw [if_pos c2, if_neg (fun z => by rw [z] at c2; exact absurd c2 (by decide)), if_neg (fun z => by rw [z] at c2; exact absurd c2 (by decide))]
  rw [if_neg c2]
  rcases i32_c x with h | ⟨k, hk, rfl⟩
  · exact absurd h c1
  have : ¬ 1 < k := fun z => c2 ((nI_ltI (by omega) hk).mpr z)
  rcases (show k = 0 ∨ k = 1 by omega) with rfl | rfl
  · rfl
  · rfl
def sp194 : mv_Sp := fun As sh M Q => ∃ (x : Int32), As = [.int x] ∧ ((True)) ∧ Q (some (.int (if x = nI 0 then nI 1 else if x = nI 1 then nI 1 else nI 0))) (sh) (M)
theorem cl194 {S : Nat → mv_Sp} (hS : S 194 = sp194) {sh : mv_Shp} {M : mv_Mem} {x : Int32} (p1 : True) {K : mv_Kt} {pc : Nat} {L : mv_Loc} {st : List Value} {cc_ ss_ : Nat} : mv_kal S 194 [.int x] sh M K pc L st cc_ ss_ = K pc L ((some (.int (if x = nI 0 then nI 1 else if x = nI 1 then nI 1 else nI 0)) : Option Value).toList ++ st) (sh) (M) cc_ ss_ := by
  refine q_kal (fun F => q_cali (fun Q => ?_))
  rw [hS]
  constructor
  · rintro ⟨x', hE, zp1, hQ⟩
    simp only [List.cons.injEq, Value.ref.injEq, Value.int.injEq, Value.long.injEq, and_true, true_and] at hE
    subst hE
    exact hQ
  · intro hQ
    exact ⟨x, rfl, p1, hQ⟩
theorem ct194 {S : Nat → mv_Sp} (h144 : S 144 = sp144) : ∀ As sh M P, sp194 As sh M P → (mv_al0 As).length ≤ 1 ∧ mr194 S P 0 (mv_ent As 1) [] sh M 0 0 := by
  rintro As sh M P ⟨x, rfl, p1, hQ⟩
  refine ⟨Nat.le_of_ble_eq_true rfl, ?_⟩
  show mr194 S P 0 [some (.int x)] [] sh M 0 0
  rw [← in_w] at hQ
  simp (disch := first | assumption | omega) only [e194_0, e194_1, e194_2, e194_3, e194_4, e194_7, q_gv0, q_gvs, q_isI1, q_isA1, q_hs0, q_hsn, q_hsi, q_hsr, q_hss, q_inc1, List.set_cons_zero, List.set_cons_succ, ↓reduceIte, q_ss0, q_ssi, q_ssr, q_nr0, q_nr10, q_nr11, q_tlS, q_tlN, q_cl, q_let, q_lef, q_ltt, q_ltf, q_eqt, q_eqf, q_add, q_mul, Nat.reduceAdd, Nat.reduceLeDiff, Nat.reduceEqDiff, eq_self, Nat.zero_le, Nat.le_refl, not_false_eq_true, not_true_eq_false, true_and, and_true, and_self, if_true, if_false, q_isL1, q_lc, cr144 h144, in_01]
  exact hQ
theorem pw6 : ∀ n, n ≤ 6 → 10 ^ n ≤ 1000000 := fun n hn => Nat.le_trans (Nat.pow_le_pow_right (by decide) hn) (by decide)
theorem lp167 {S : Nat → mv_Sp} {sh : mv_Shp} {M : mv_Mem} {P : mv_Post} {nT : Nat} {x : Int32} (p1 : oM sh) (hT : M 0 3 = nI nT) (hT6 : nT ≤ 6) (hQ : ∀ z, mr167 S P 23 [some (.ref 0), some (.int x), some (.int (nI (10 ^ nT))), z] [] sh M 0 0) :
    ∀ n t, t + n = nT → mr167 S P 4 [some (.ref 0), some (.int x), some (.int (nI (10 ^ t))), some (.int (nI t))] [] sh M 0 0
  | 0, t, h => by
    obtain rfl : t = nT := by omega
    rw [e167_4]
    simp (disch := first | assumption | omega) only [e167_5, e167_6, e167_9, q_gv0, q_gvs, q_isI1, q_isA1, q_hs0, q_hsn, q_hsi, q_hsr, q_hss, q_inc1, List.set_cons_zero, List.set_cons_succ, ↓reduceIte, q_ss0, q_ssi, q_ssr, q_nr0, q_nr10, q_nr11, q_tlS, q_tlN, q_cl, q_let, q_lef, q_ltt, q_ltf, q_eqt, q_eqf, q_add, q_mul, Nat.reduceAdd, Nat.reduceLeDiff, Nat.reduceEqDiff, eq_self, Nat.zero_le, Nat.le_refl, not_false_eq_true, not_true_eq_false, true_and, and_true, and_self, if_true, if_false, p1.g3, hT]
    exact hQ _
  | n + 1, t, h => by
    have ih := lp167 (S := S) p1 hT hT6 hQ n (t + 1) (by omega)
    rw [Nat.pow_succ] at ih
    rw [e167_4]
    simp (disch := first | assumption | omega) only [e167_5, e167_6, e167_9, e167_12, e167_13, e167_15, e167_16, e167_17, e167_20, q_gv0, q_gvs, q_isI1, q_isA1, q_hs0, q_hsn, q_hsi, q_hsr, q_hss, q_inc1, List.set_cons_zero, List.set_cons_succ, ↓reduceIte, q_ss0, q_ssi, q_ssr, q_nr0, q_nr10, q_nr11, q_tlS, q_tlN, q_cl, q_let, q_lef, q_ltt, q_ltf, q_eqt, q_eqf, q_add, q_mul, Nat.reduceAdd, Nat.reduceLeDiff, Nat.reduceEqDiff, eq_self, Nat.zero_le, Nat.le_refl, not_false_eq_true, not_true_eq_false, true_and, and_true, and_self, if_true, if_false, p1.g3, hT]
    exact ih
def sp167 : mv_Sp := fun As sh M Q => ∃ (x : Int32), As = [.ref 0, .int x] ∧ ((oM sh) ∧ (∃ n, n ≤ 6 ∧ M 0 3 = nI n)) ∧ Q (some (.int (if x < nI 0 then nI 0 else if nI (10 ^ (M 0 3).toNatClampNeg) ≤ x then nI 0 else nI 1))) (sh) (M)
theorem cl167 {S : Nat → mv_Sp} (hS : S 167 = sp167) {sh : mv_Shp} {M : mv_Mem} {x : Int32} (p1 : oM sh) (p2 : ∃ n, n ≤ 6 ∧ M 0 3 = nI n) {K : mv_Kt} {pc : Nat} {L : mv_Loc} {st : List Value} {cc_ ss_ : Nat} : mv_kal S 167 [.ref 0, .int x] sh M K pc L st cc_ ss_ = K pc L ((some (.int (if x < nI 0 then nI 0 else if nI (10 ^ (M 0 3).toNatClampNeg) ≤ x then nI 0 else nI 1)) : Option Value).toList ++ st) (sh) (M) cc_ ss_ := by
  refine q_kal (fun F => q_cali (fun Q => ?_))
  rw [hS]
  constructor
  · rintro ⟨x', hE, ⟨zp1, zp2⟩, hQ⟩
    simp only [List.cons.injEq, Value.ref.injEq, Value.int.injEq, Value.long.injEq, and_true, true_and] at hE
    subst hE
    exact hQ
  · intro hQ
    exact ⟨x, rfl, ⟨p1, p2⟩, hQ⟩
theorem ct167 {S : Nat → mv_Sp} (h144 : S 144 = sp144) : ∀ As sh M P, sp167 As sh M P → (mv_al0 As).length ≤ 4 ∧ mr167 S P 0 (mv_ent As 4) [] sh M 0 0 := by
  rintro As sh M P ⟨x, rfl, ⟨p1, p2⟩, hQ⟩
  refine ⟨Nat.le_of_ble_eq_true rfl, ?_⟩
  show mr167 S P 0 [some (.ref 0), some (.int x), none, none] [] sh M 0 0
  obtain ⟨n, hn, hN⟩ := p2
  have hp := pw6 n hn
  rw [hN, q_cl (by omega), ← in_0 (by omega)] at hQ
  simp (disch := first | assumption | omega) only [e167_0, e167_1, e167_2, e167_3, q_gv0, q_gvs, q_isI1, q_isA1, q_hs0, q_hsn, q_hsi, q_hsr, q_hss, q_inc1, List.set_cons_zero, List.set_cons_succ, ↓reduceIte, q_ss0, q_ssi, q_ssr, q_nr0, q_nr10, q_nr11, q_tlS, q_tlN, q_cl, q_let, q_lef, q_ltt, q_ltf, q_eqt, q_eqf, q_add, q_mul, Nat.reduceAdd, Nat.reduceLeDiff, Nat.reduceEqDiff, eq_self, Nat.zero_le, Nat.le_refl, not_false_eq_true, not_true_eq_false, true_and, and_true, and_self, if_true, if_false]
  refine lp167 p1 hN hn (fun z => ?_) n 0 (by omega)
  simp (disch := first | assumption | omega) only [e167_0, e167_1, e167_2, e167_3, e167_5, e167_6, e167_9, e167_12, e167_13, e167_15, e167_16, e167_17, e167_20, e167_23, e167_24, e167_25, e167_26, e167_27, e167_28, e167_29, e167_30, e167_33, q_gv0, q_gvs, q_isI1, q_isA1, q_hs0, q_hsn, q_hsi, q_hsr, q_hss, q_inc1, List.set_cons_zero, List.set_cons_succ, ↓reduceIte, q_ss0, q_ssi, q_ssr, q_nr0, q_nr10, q_nr11, q_tlS, q_tlN, q_cl, q_let, q_lef, q_ltt, q_ltf, q_eqt, q_eqf, q_add, q_mul, Nat.reduceAdd, Nat.reduceLeDiff, Nat.reduceEqDiff, eq_self, Nat.zero_le, Nat.le_refl, not_false_eq_true, not_true_eq_false, true_and, and_true, and_self, if_true, if_false, q_isL1, q_lc, cr144 h144, in_01]
  exact hQ
theorem lp170 {S : Nat → mv_Sp} {sh : mv_Shp} {M : mv_Mem} {P : mv_Post} {nT : Nat} (p1 : oM sh) (hT : M 0 3 = nI nT) (hT6 : nT ≤ 6) (hQ : P (some (.int (tpF (fun t => M 1 (6 + t)) nT))) sh M) :
    ∀ n t, t + n = nT → mr170 S P 4 [some (.ref 0), some (.int (tpF (fun t => M 1 (6 + t)) t)), some (.int (nI t))] [] sh M 0 0
  | 0, t, h => by
    obtain rfl : t = nT := by omega
    rw [e170_4]
    simp (disch := first | assumption | omega) only [e170_0, e170_1, e170_2, e170_3, e170_5, e170_6, e170_9, e170_12, e170_13, e170_14, e170_17, e170_19, e170_20, e170_21, e170_22, e170_23, e170_24, e170_25, e170_26, e170_27, e170_28, e170_31, e170_34, e170_35, q_gv0, q_gvs, q_isI1, q_isA1, q_hs0, q_hsn, q_hsi, q_hsr, q_hss, q_inc1, List.set_cons_zero, List.set_cons_succ, ↓reduceIte, q_ss0, q_ssi, q_ssr, q_nr0, q_nr10, q_nr11, q_tlS, q_tlN, q_cl, q_let, q_lef, q_ltt, q_ltf, q_eqt, q_eqf, q_add, q_mul, Nat.reduceAdd, Nat.reduceLeDiff, Nat.reduceEqDiff, eq_self, Nat.zero_le, Nat.le_refl, not_false_eq_true, not_true_eq_false, true_and, and_true, and_self, if_true, if_false, p1.g3, hT]
    exact hQ
  | n + 1, t, h => by
    have ih := lp170 (S := S) p1 hT hT6 hQ n (t + 1) (by omega)
    rw [e170_4]
    simp (disch := first | assumption | omega) only [e170_0, e170_1, e170_2, e170_3, e170_5, e170_6, e170_9, e170_12, e170_13, e170_14, e170_17, e170_19, e170_20, e170_21, e170_22, e170_23, e170_24, e170_25, e170_26, e170_27, e170_28, e170_31, e170_34, e170_35, q_gv0, q_gvs, q_isI1, q_isA1, q_hs0, q_hsn, q_hsi, q_hsr, q_hss, q_inc1, List.set_cons_zero, List.set_cons_succ, ↓reduceIte, q_ss0, q_ssi, q_ssr, q_nr0, q_nr10, q_nr11, q_tlS, q_tlN, q_cl, q_let, q_lef, q_ltt, q_ltf, q_eqt, q_eqf, q_add, q_mul, Nat.reduceAdd, Nat.reduceLeDiff, Nat.reduceEqDiff, eq_self, Nat.zero_le, Nat.le_refl, not_false_eq_true, not_true_eq_false, true_and, and_true, and_self, if_true, if_false, p1.g0, p1.g3, p1.l1, hT]
    exact ih
/-- the holes on top now -/
def hnY (M : mv_Mem) : Int32 := tpF (fun t => M 1 (6 + t)) (M 0 3).toNatClampNeg
def sp170 : mv_Sp := fun As sh M Q => As = [.ref 0] ∧ ((oM sh) ∧ (∃ n, n ≤ 6 ∧ M 0 3 = nI n)) ∧ Q (some (.int (hnY M))) (sh) (M)
theorem cl170 {S : Nat → mv_Sp} (hS : S 170 = sp170) {sh : mv_Shp} {M : mv_Mem}  (p1 : oM sh) (p2 : ∃ n, n ≤ 6 ∧ M 0 3 = nI n) {K : mv_Kt} {pc : Nat} {L : mv_Loc} {st : List Value} {cc_ ss_ : Nat} : mv_kal S 170 [.ref 0] sh M K pc L st cc_ ss_ = K pc L ((some (.int (hnY M)) : Option Value).toList ++ st) (sh) (M) cc_ ss_ := by
  refine q_kal (fun F => q_cali (fun Q => ?_))
  rw [hS]
  constructor
  · rintro ⟨hE, ⟨zp1, zp2⟩, hQ⟩
    exact hQ
  · intro hQ
    exact ⟨rfl, ⟨p1, p2⟩, hQ⟩
theorem ct170 {S : Nat → mv_Sp}  : ∀ As sh M P, sp170 As sh M P → (mv_al0 As).length ≤ 3 ∧ mr170 S P 0 (mv_ent As 3) [] sh M 0 0 := by
  rintro As sh M P ⟨rfl, ⟨p1, p2⟩, hQ⟩
  refine ⟨Nat.le_of_ble_eq_true rfl, ?_⟩
  show mr170 S P 0 [some (.ref 0), none, none] [] sh M 0 0
  obtain ⟨n, hn, hN⟩ := p2
  unfold hnY at hQ
  rw [hN, q_cl (by omega)] at hQ
  simp (disch := first | assumption | omega) only [e170_0, e170_1, e170_2, e170_3, q_gv0, q_gvs, q_isI1, q_isA1, q_hs0, q_hsn, q_hsi, q_hsr, q_hss, q_inc1, List.set_cons_zero, List.set_cons_succ, ↓reduceIte, q_ss0, q_ssi, q_ssr, q_nr0, q_nr10, q_nr11, q_tlS, q_tlN, q_cl, q_let, q_lef, q_ltt, q_ltf, q_eqt, q_eqf, q_add, q_mul, Nat.reduceAdd, Nat.reduceLeDiff, Nat.reduceEqDiff, eq_self, Nat.zero_le, Nat.le_refl, not_false_eq_true, not_true_eq_false, true_and, and_true, and_self, if_true, if_false]
  exact lp170 p1 hN hn hQ n 0 (by omega)
def plT (x y : Int32) : Int32 := (x ^^^ y) ^^^ (((x &&& y) &&& nI 1365) <<< (nI 1 &&& 31))
def sp171 : mv_Sp := fun As sh M Q => ∃ (x : Int32) (y : Int32), As = [.int x, .int y] ∧ ((True)) ∧ Q (some (.int (plT x y))) (sh) (M)
theorem cl171 {S : Nat → mv_Sp} (hS : S 171 = sp171) {sh : mv_Shp} {M : mv_Mem} {x : Int32} {y : Int32} (p1 : True) {K : mv_Kt} {pc : Nat} {L : mv_Loc} {st : List Value} {cc_ ss_ : Nat} : mv_kal S 171 [.int x, .int y] sh M K pc L st cc_ ss_ = K pc L ((some (.int (plT x y)) : Option Value).toList ++ st) (sh) (M) cc_ ss_ := by
  refine q_kal (fun F => q_cali (fun Q => ?_))
  rw [hS]
  constructor
  · rintro ⟨x', y', hE, zp1, hQ⟩
    simp only [List.cons.injEq, Value.ref.injEq, Value.int.injEq, Value.long.injEq, and_true, true_and] at hE
    obtain ⟨rfl, rfl⟩ := hE
    exact hQ
  · intro hQ
    exact ⟨x, y, rfl, p1, hQ⟩
theorem ct171 {S : Nat → mv_Sp}  : ∀ As sh M P, sp171 As sh M P → (mv_al0 As).length ≤ 2 ∧ mr171 S P 0 (mv_ent As 2) [] sh M 0 0 := by
  rintro As sh M P ⟨x, y, rfl, p1, hQ⟩
  refine ⟨Nat.le_of_ble_eq_true rfl, ?_⟩
  show mr171 S P 0 [some (.int x), some (.int y)] [] sh M 0 0
  simp (disch := first | assumption | omega) only [e171_0, e171_1, e171_2, e171_3, e171_4, e171_5, e171_6, e171_9, e171_10, e171_11, e171_12, e171_13, q_gv0, q_gvs, q_isI1, q_isA1, q_hs0, q_hsn, q_hsi, q_hsr, q_hss, q_inc1, List.set_cons_zero, List.set_cons_succ, ↓reduceIte, q_ss0, q_ssi, q_ssr, q_nr0, q_nr10, q_nr11, q_tlS, q_tlN, q_cl, q_let, q_lef, q_ltt, q_ltf, q_eqt, q_eqf, q_add, q_mul, Nat.reduceAdd, Nat.reduceLeDiff, Nat.reduceEqDiff, eq_self, Nat.zero_le, Nat.le_refl, not_false_eq_true, not_true_eq_false, true_and, and_true, and_self, if_true, if_false]
  exact hQ
def btI (x : Int32) : Nat → Int32
  | 0 => nI 0
  | k + 1 => btI x k + (x >>> (nI k &&& 31) &&& nI 1)
theorem lp175 {S : Nat → mv_Sp} {sh : mv_Shp} {M : mv_Mem} {P : mv_Post} {x : Int32} (hQ : P (some (.int (btI x 6))) sh M) :
    ∀ n k, k + n = 6 → mr175 S P 4 [some (.int x), some (.int (btI x k)), some (.int (nI k))] [] sh M 0 0
  | 0, k, h => by
    obtain rfl : k = 6 := by omega
    rw [e175_4]
    simp (disch := first | assumption | omega) only [e175_0, e175_1, e175_2, e175_3, e175_5, e175_7, e175_10, e175_11, e175_12, e175_13, e175_14, e175_15, e175_16, e175_17, e175_18, e175_21, e175_24, e175_25, q_gv0, q_gvs, q_isI1, q_isA1, q_hs0, q_hsn, q_hsi, q_hsr, q_hss, q_inc1, List.set_cons_zero, List.set_cons_succ, ↓reduceIte, q_ss0, q_ssi, q_ssr, q_nr0, q_nr10, q_nr11, q_tlS, q_tlN, q_cl, q_let, q_lef, q_ltt, q_ltf, q_eqt, q_eqf, q_add, q_mul, Nat.reduceAdd, Nat.reduceLeDiff, Nat.reduceEqDiff, eq_self, Nat.zero_le, Nat.le_refl, not_false_eq_true, not_true_eq_false, true_and, and_true, and_self, if_true, if_false]
    exact hQ
  | n + 1, k, h => by
    have ih := lp175 (S := S) hQ n (k + 1) (by omega)
    rw [e175_4]
    simp (disch := first | assumption | omega) only [e175_0, e175_1, e175_2, e175_3, e175_5, e175_7, e175_10, e175_11, e175_12, e175_13, e175_14, e175_15, e175_16, e175_17, e175_18, e175_21, e175_24, e175_25, q_gv0, q_gvs, q_isI1, q_isA1, q_hs0, q_hsn, q_hsi, q_hsr, q_hss, q_inc1, List.set_cons_zero, List.set_cons_succ, ↓reduceIte, q_ss0, q_ssi, q_ssr, q_nr0, q_nr10, q_nr11, q_tlS, q_tlN, q_cl, q_let, q_lef, q_ltt, q_ltf, q_eqt, q_eqf, q_add, q_mul, Nat.reduceAdd, Nat.reduceLeDiff, Nat.reduceEqDiff, eq_self, Nat.zero_le, Nat.le_refl, not_false_eq_true, not_true_eq_false, true_and, and_true, and_self, if_true, if_false]
    exact ih
def sp175 : mv_Sp := fun As sh M Q => ∃ (x : Int32), As = [.int x] ∧ ((True)) ∧ Q (some (.int (btI x 6))) (sh) (M)
theorem cl175 {S : Nat → mv_Sp} (hS : S 175 = sp175) {sh : mv_Shp} {M : mv_Mem} {x : Int32} (p1 : True) {K : mv_Kt} {pc : Nat} {L : mv_Loc} {st : List Value} {cc_ ss_ : Nat} : mv_kal S 175 [.int x] sh M K pc L st cc_ ss_ = K pc L ((some (.int (btI x 6)) : Option Value).toList ++ st) (sh) (M) cc_ ss_ := by
  refine q_kal (fun F => q_cali (fun Q => ?_))
  rw [hS]
  constructor
  · rintro ⟨x', hE, zp1, hQ⟩
    simp only [List.cons.injEq, Value.ref.injEq, Value.int.injEq, Value.long.injEq, and_true, true_and] at hE
    subst hE
    exact hQ
  · intro hQ
    exact ⟨x, rfl, p1, hQ⟩
theorem ct175 {S : Nat → mv_Sp}  : ∀ As sh M P, sp175 As sh M P → (mv_al0 As).length ≤ 3 ∧ mr175 S P 0 (mv_ent As 3) [] sh M 0 0 := by
  rintro As sh M P ⟨x, rfl, p1, hQ⟩
  refine ⟨Nat.le_of_ble_eq_true rfl, ?_⟩
  show mr175 S P 0 [some (.int x), none, none] [] sh M 0 0
  simp (disch := first | assumption | omega) only [e175_0, e175_1, e175_2, e175_3, q_gv0, q_gvs, q_isI1, q_isA1, q_hs0, q_hsn, q_hsi, q_hsr, q_hss, q_inc1, List.set_cons_zero, List.set_cons_succ, ↓reduceIte, q_ss0, q_ssi, q_ssr, q_nr0, q_nr10, q_nr11, q_tlS, q_tlN, q_cl, q_let, q_lef, q_ltt, q_ltf, q_eqt, q_eqf, q_add, q_mul, Nat.reduceAdd, Nat.reduceLeDiff, Nat.reduceEqDiff, eq_self, Nat.zero_le, Nat.le_refl, not_false_eq_true, not_true_eq_false, true_and, and_true, and_self, if_true, if_false]
  exact lp175 hQ 6 0 rfl
theorem btI_N : ∀ k : Fin 64, btI (nI k.1) 6 = nI (btN k.1) := by decide +kernel
def sp176 : mv_Sp := fun As sh M Q => As = [.ref 0] ∧ ((oM sh)) ∧ Q (some (.int ((nI 1 <<< (M 0 7 &&& 31)) - nI 1))) (sh) (M)
theorem cl176 {S : Nat → mv_Sp} (hS : S 176 = sp176) {sh : mv_Shp} {M : mv_Mem}  (p1 : oM sh) {K : mv_Kt} {pc : Nat} {L : mv_Loc} {st : List Value} {cc_ ss_ : Nat} : mv_kal S 176 [.ref 0] sh M K pc L st cc_ ss_ = K pc L ((some (.int ((nI 1 <<< (M 0 7 &&& 31)) - nI 1)) : Option Value).toList ++ st) (sh) (M) cc_ ss_ := by
  refine q_kal (fun F => q_cali (fun Q => ?_))
  rw [hS]
  constructor
  · rintro ⟨hE, zp1, hQ⟩
    exact hQ
  · intro hQ
    exact ⟨rfl, p1, hQ⟩
theorem ct176 {S : Nat → mv_Sp}  : ∀ As sh M P, sp176 As sh M P → (mv_al0 As).length ≤ 1 ∧ mr176 S P 0 (mv_ent As 1) [] sh M 0 0 := by
  rintro As sh M P ⟨rfl, p1, hQ⟩
  refine ⟨Nat.le_of_ble_eq_true rfl, ?_⟩
  show mr176 S P 0 [some (.ref 0)] [] sh M 0 0
  simp (disch := first | assumption | omega) only [e176_0, e176_1, e176_2, e176_5, e176_6, e176_7, e176_8, q_gv0, q_gvs, q_isI1, q_isA1, q_hs0, q_hsn, q_hsi, q_hsr, q_hss, q_inc1, List.set_cons_zero, List.set_cons_succ, ↓reduceIte, q_ss0, q_ssi, q_ssr, q_nr0, q_nr10, q_nr11, q_tlS, q_tlN, q_cl, q_let, q_lef, q_ltt, q_ltf, q_eqt, q_eqf, q_add, q_mul, Nat.reduceAdd, Nat.reduceLeDiff, Nat.reduceEqDiff, eq_self, Nat.zero_le, Nat.le_refl, not_false_eq_true, not_true_eq_false, true_and, and_true, and_self, if_true, if_false, p1.g7]
  exact hQ
theorem lp183 {S : Nat → mv_Sp} {sh : mv_Shp} {M : mv_Mem} {P : mv_Post} {nT : Nat} (p1 : oM sh) (hT : M 0 3 = nI nT) (hT6 : nT ≤ 6) (hQ : P (some (.int (nI (lfF (fun t => M 1 (18 + t)) nT)))) sh M) (hf : ∀ t, t < nT → ∃ f, f ≤ 99 ∧ M 1 (18 + t) = nI f) :
    ∀ n t, t + n = nT → mr183 S P 4 [some (.ref 0), some (.int (nI (lfF (fun t => M 1 (18 + t)) t))), some (.int (nI t))] [] sh M 0 0
  | 0, t, h => by
    obtain rfl : t = nT := by omega
    rw [e183_4]
    simp (disch := first | assumption | omega) only [e183_0, e183_1, e183_2, e183_3, e183_5, e183_6, e183_9, e183_12, e183_13, e183_14, e183_17, e183_19, e183_20, e183_21, e183_22, e183_23, e183_26, e183_27, e183_30, e183_31, e183_32, e183_33, e183_36, e183_39, e183_40, q_gv0, q_gvs, q_isI1, q_isA1, q_hs0, q_hsn, q_hsi, q_hsr, q_hss, q_inc1, List.set_cons_zero, List.set_cons_succ, ↓reduceIte, q_ss0, q_ssi, q_ssr, q_nr0, q_nr10, q_nr11, q_tlS, q_tlN, q_cl, q_let, q_lef, q_ltt, q_ltf, q_eqt, q_eqf, q_add, q_mul, Nat.reduceAdd, Nat.reduceLeDiff, Nat.reduceEqDiff, eq_self, Nat.zero_le, Nat.le_refl, not_false_eq_true, not_true_eq_false, true_and, and_true, and_self, if_true, if_false, p1.g3, hT]
    exact hQ
  | n + 1, t, h => by
    have ih := lp183 (S := S) p1 hT hT6 hQ hf n (t + 1) (by omega)
    obtain ⟨f, hf1, hF⟩ := hf t (by omega)
    have e : lfF (fun t => M 1 (18 + t)) (t + 1) = lfF (fun t => M 1 (18 + t)) t + (if M 1 (18 + t) < nI 4 then 0 else 1) := rfl
    rw [e, hF] at ih
    rw [e183_4]
    by_cases hh : f < 4
    · rw [if_pos ((nI_ltI (by omega) (by omega)).mpr hh)] at ih
      have h3 : f ≤ 3 := by omega
      simp (disch := first | assumption | omega) only [e183_0, e183_1, e183_2, e183_3, e183_5, e183_6, e183_9, e183_12, e183_13, e183_14, e183_17, e183_19, e183_20, e183_21, e183_22, e183_23, e183_26, e183_27, e183_30, e183_31, e183_32, e183_33, e183_36, e183_39, e183_40, q_gv0, q_gvs, q_isI1, q_isA1, q_hs0, q_hsn, q_hsi, q_hsr, q_hss, q_inc1, List.set_cons_zero, List.set_cons_succ, ↓reduceIte, q_ss0, q_ssi, q_ssr, q_nr0, q_nr10, q_nr11, q_tlS, q_tlN, q_cl, q_let, q_lef, q_ltt, q_ltf, q_eqt, q_eqf, q_add, q_mul, Nat.reduceAdd, Nat.reduceLeDiff, Nat.reduceEqDiff, eq_self, Nat.zero_le, Nat.le_refl, not_false_eq_true, not_true_eq_false, true_and, and_true, and_self, if_true, if_false, p1.g0, p1.g3, p1.l1, hT, hF]
      exact ih
    · rw [if_neg (fun z => hh ((nI_ltI (by omega) (by omega)).mp z))] at ih
      have h3 : 3 < f := by omega
      simp (disch := first | assumption | omega) only [e183_0, e183_1, e183_2, e183_3, e183_5, e183_6, e183_9, e183_12, e183_13, e183_14, e183_17, e183_19, e183_20, e183_21, e183_22, e183_23, e183_26, e183_27, e183_30, e183_31, e183_32, e183_33, e183_36, e183_39, e183_40, q_gv0, q_gvs, q_isI1, q_isA1, q_hs0, q_hsn, q_hsi, q_hsr, q_hss, q_inc1, List.set_cons_zero, List.set_cons_succ, ↓reduceIte, q_ss0, q_ssi, q_ssr, q_nr0, q_nr10, q_nr11, q_tlS, q_tlN, q_cl, q_let, q_lef, q_ltt, q_ltf, q_eqt, q_eqf, q_add, q_mul, Nat.reduceAdd, Nat.reduceLeDiff, Nat.reduceEqDiff, eq_self, Nat.zero_le, Nat.le_refl, not_false_eq_true, not_true_eq_false, true_and, and_true, and_self, if_true, if_false, p1.g0, p1.g3, p1.l1, hT, hF]
      exact ih
def sp183 : mv_Sp := fun As sh M Q => As = [.ref 0] ∧ ((oM sh) ∧ (∃ n, n ≤ 6 ∧ M 0 3 = nI n) ∧ (cY M 0)) ∧ Q (some (.int (nI (lfF (fun t => M 1 (18 + t)) (M 0 3).toNatClampNeg)))) (sh) (M)
theorem cl183 {S : Nat → mv_Sp} (hS : S 183 = sp183) {sh : mv_Shp} {M : mv_Mem}  (p1 : oM sh) (p2 : ∃ n, n ≤ 6 ∧ M 0 3 = nI n) (p3 : cY M 0) {K : mv_Kt} {pc : Nat} {L : mv_Loc} {st : List Value} {cc_ ss_ : Nat} : mv_kal S 183 [.ref 0] sh M K pc L st cc_ ss_ = K pc L ((some (.int (nI (lfF (fun t => M 1 (18 + t)) (M 0 3).toNatClampNeg))) : Option Value).toList ++ st) (sh) (M) cc_ ss_ := by
  refine q_kal (fun F => q_cali (fun Q => ?_))
  rw [hS]
  constructor
  · rintro ⟨hE, ⟨zp1, zp2, zp3⟩, hQ⟩
    exact hQ
  · intro hQ
    exact ⟨rfl, ⟨p1, p2, p3⟩, hQ⟩
theorem ct183 {S : Nat → mv_Sp}  : ∀ As sh M P, sp183 As sh M P → (mv_al0 As).length ≤ 3 ∧ mr183 S P 0 (mv_ent As 3) [] sh M 0 0 := by
  rintro As sh M P ⟨rfl, ⟨p1, p2, p3⟩, hQ⟩
  refine ⟨Nat.le_of_ble_eq_true rfl, ?_⟩
  show mr183 S P 0 [some (.ref 0), none, none] [] sh M 0 0
  obtain ⟨n, hn, hN⟩ := p2
  have hf : ∀ t, t < n → ∃ f, f ≤ 99 ∧ M 1 (18 + t) = nI f := by
    intro t ht
    have := (p3 t (by rw [hN, q_cl (by omega)]; exact ht)).2.2
    rw [Nat.zero_add] at this
    exact this
  rw [hN, q_cl (by omega)] at hQ
  simp (disch := first | assumption | omega) only [e183_0, e183_1, e183_2, e183_3, q_gv0, q_gvs, q_isI1, q_isA1, q_hs0, q_hsn, q_hsi, q_hsr, q_hss, q_inc1, List.set_cons_zero, List.set_cons_succ, ↓reduceIte, q_ss0, q_ssi, q_ssr, q_nr0, q_nr10, q_nr11, q_tlS, q_tlN, q_cl, q_let, q_lef, q_ltt, q_ltf, q_eqt, q_eqf, q_add, q_mul, Nat.reduceAdd, Nat.reduceLeDiff, Nat.reduceEqDiff, eq_self, Nat.zero_le, Nat.le_refl, not_false_eq_true, not_true_eq_false, true_and, and_true, and_self, if_true, if_false]
  exact lp183 p1 hN hn hQ hf n 0 (by omega)
def cnY (M : mv_Mem) (x : Int32) : Int32 :=
  if x = nI 0 then M 0 3 else if x = nI 1 then M 0 7 else if x = nI 2 then M 0 10 else if x = nI 3 then M 0 9 else if x = nI 4 then M 1 30
  else if x = nI 5 then nI (lfF (fun t => M 1 (18 + t)) (M 0 3).toNatClampNeg) else if x = nI 6 then M 0 14 else if x = nI 7 then M 0 1 else if x = nI 8 then M 0 2 else if x = nI 9 then M 0 13 else Int32.ofInt (-1)
def sp184 : mv_Sp := fun As sh M Q => ∃ (x : Int32), As = [.ref 0, .int x] ∧ ((oM sh) ∧ (∃ n, n ≤ 6 ∧ M 0 3 = nI n) ∧ (cY M 0)) ∧ Q (some (.int (cnY M x))) (sh) (M)
theorem cl184 {S : Nat → mv_Sp} (hS : S 184 = sp184) {sh : mv_Shp} {M : mv_Mem} {x : Int32} (p1 : oM sh) (p2 : ∃ n, n ≤ 6 ∧ M 0 3 = nI n) (p3 : cY M 0) {K : mv_Kt} {pc : Nat} {L : mv_Loc} {st : List Value} {cc_ ss_ : Nat} : mv_kal S 184 [.ref 0, .int x] sh M K pc L st cc_ ss_ = K pc L ((some (.int (cnY M x)) : Option Value).toList ++ st) (sh) (M) cc_ ss_ := by
  refine q_kal (fun F => q_cali (fun Q => ?_))
  rw [hS]
  constructor
  · rintro ⟨x', hE, ⟨zp1, zp2, zp3⟩, hQ⟩
    simp only [List.cons.injEq, Value.ref.injEq, Value.int.injEq, Value.long.injEq, and_true, true_and] at hE
    subst hE
    exact hQ
  · intro hQ
    exact ⟨x, rfl, ⟨p1, p2, p3⟩, hQ⟩
theorem ct184 {S : Nat → mv_Sp} (h183 : S 183 = sp183) : ∀ As sh M P, sp184 As sh M P → (mv_al0 As).length ≤ 2 ∧ mr184 S P 0 (mv_ent As 2) [] sh M 0 0 := by
  rintro As sh M P ⟨x, rfl, ⟨p1, p2, p3⟩, hQ⟩
  refine ⟨Nat.le_of_ble_eq_true rfl, ?_⟩
  show mr184 S P 0 [some (.ref 0), some (.int x)] [] sh M 0 0
  unfold cnY at hQ
  by_cases c0 : x = nI 0
  · rw [if_pos c0] at hQ
    simp (disch := first | assumption | omega) only [e184_0, e184_1, e184_56, e184_57, e184_60, e184_61, e184_62, e184_65, e184_66, e184_67, e184_70, e184_71, e184_72, e184_75, e184_76, e184_77, e184_80, e184_82, e184_83, e184_84, e184_85, e184_88, e184_89, e184_90, e184_93, e184_94, e184_95, e184_98, e184_99, e184_100, e184_103, e184_104, e184_105, e184_108, e184_109, e184_110, q_gv0, q_gvs, q_isI1, q_isA1, q_hs0, q_hsn, q_hsi, q_hsr, q_hss, q_inc1, List.set_cons_zero, List.set_cons_succ, ↓reduceIte, q_ss0, q_ssi, q_ssr, q_nr0, q_nr10, q_nr11, q_tlS, q_tlN, q_cl, q_let, q_lef, q_ltt, q_ltf, q_eqt, q_eqf, q_add, q_mul, Nat.reduceAdd, Nat.reduceLeDiff, Nat.reduceEqDiff, eq_self, Nat.zero_le, Nat.le_refl, not_false_eq_true, not_true_eq_false, true_and, and_true, and_self, if_true, if_false, p1.g3, c0]
    exact hQ
  rw [if_neg c0] at hQ
  by_cases c1 : x = nI 1
  · rw [if_pos c1] at hQ
    simp (disch := first | assumption | omega) only [e184_0, e184_1, e184_56, e184_57, e184_60, e184_61, e184_62, e184_65, e184_66, e184_67, e184_70, e184_71, e184_72, e184_75, e184_76, e184_77, e184_80, e184_82, e184_83, e184_84, e184_85, e184_88, e184_89, e184_90, e184_93, e184_94, e184_95, e184_98, e184_99, e184_100, e184_103, e184_104, e184_105, e184_108, e184_109, e184_110, q_gv0, q_gvs, q_isI1, q_isA1, q_hs0, q_hsn, q_hsi, q_hsr, q_hss, q_inc1, List.set_cons_zero, List.set_cons_succ, ↓reduceIte, q_ss0, q_ssi, q_ssr, q_nr0, q_nr10, q_nr11, q_tlS, q_tlN, q_cl, q_let, q_lef, q_ltt, q_ltf, q_eqt, q_eqf, q_add, q_mul, Nat.reduceAdd, Nat.reduceLeDiff, Nat.reduceEqDiff, eq_self, Nat.zero_le, Nat.le_refl, not_false_eq_true, not_true_eq_false, true_and, and_true, and_self, if_true, if_false, p1.g7, c1]
    exact hQ
  rw [if_neg c1] at hQ
  by_cases c2 : x = nI 2
  · rw [if_pos c2] at hQ
    simp (disch := first | assumption | omega) only [e184_0, e184_1, e184_56, e184_57, e184_60, e184_61, e184_62, e184_65, e184_66, e184_67, e184_70, e184_71, e184_72, e184_75, e184_76, e184_77, e184_80, e184_82, e184_83, e184_84, e184_85, e184_88, e184_89, e184_90, e184_93, e184_94, e184_95, e184_98, e184_99, e184_100, e184_103, e184_104, e184_105, e184_108, e184_109, e184_110, q_gv0, q_gvs, q_isI1, q_isA1, q_hs0, q_hsn, q_hsi, q_hsr, q_hss, q_inc1, List.set_cons_zero, List.set_cons_succ, ↓reduceIte, q_ss0, q_ssi, q_ssr, q_nr0, q_nr10, q_nr11, q_tlS, q_tlN, q_cl, q_let, q_lef, q_ltt, q_ltf, q_eqt, q_eqf, q_add, q_mul, Nat.reduceAdd, Nat.reduceLeDiff, Nat.reduceEqDiff, eq_self, Nat.zero_le, Nat.le_refl, not_false_eq_true, not_true_eq_false, true_and, and_true, and_self, if_true, if_false, p1.g10, c2]
    exact hQ
  rw [if_neg c2] at hQ
  by_cases c3 : x = nI 3
  · rw [if_pos c3] at hQ
    simp (disch := first | assumption | omega) only [e184_0, e184_1, e184_56, e184_57, e184_60, e184_61, e184_62, e184_65, e184_66, e184_67, e184_70, e184_71, e184_72, e184_75, e184_76, e184_77, e184_80, e184_82, e184_83, e184_84, e184_85, e184_88, e184_89, e184_90, e184_93, e184_94, e184_95, e184_98, e184_99, e184_100, e184_103, e184_104, e184_105, e184_108, e184_109, e184_110, q_gv0, q_gvs, q_isI1, q_isA1, q_hs0, q_hsn, q_hsi, q_hsr, q_hss, q_inc1, List.set_cons_zero, List.set_cons_succ, ↓reduceIte, q_ss0, q_ssi, q_ssr, q_nr0, q_nr10, q_nr11, q_tlS, q_tlN, q_cl, q_let, q_lef, q_ltt, q_ltf, q_eqt, q_eqf, q_add, q_mul, Nat.reduceAdd, Nat.reduceLeDiff, Nat.reduceEqDiff, eq_self, Nat.zero_le, Nat.le_refl, not_false_eq_true, not_true_eq_false, true_and, and_true, and_self, if_true, if_false, p1.g9, c3]
    exact hQ
  rw [if_neg c3] at hQ
  by_cases c4 : x = nI 4
  · rw [if_pos c4] at hQ
    simp (disch := first | assumption | omega) only [e184_0, e184_1, e184_56, e184_57, e184_60, e184_61, e184_62, e184_65, e184_66, e184_67, e184_70, e184_71, e184_72, e184_75, e184_76, e184_77, e184_80, e184_82, e184_83, e184_84, e184_85, e184_88, e184_89, e184_90, e184_93, e184_94, e184_95, e184_98, e184_99, e184_100, e184_103, e184_104, e184_105, e184_108, e184_109, e184_110, q_gv0, q_gvs, q_isI1, q_isA1, q_hs0, q_hsn, q_hsi, q_hsr, q_hss, q_inc1, List.set_cons_zero, List.set_cons_succ, ↓reduceIte, q_ss0, q_ssi, q_ssr, q_nr0, q_nr10, q_nr11, q_tlS, q_tlN, q_cl, q_let, q_lef, q_ltt, q_ltf, q_eqt, q_eqf, q_add, q_mul, Nat.reduceAdd, Nat.reduceLeDiff, Nat.reduceEqDiff, eq_self, Nat.zero_le, Nat.le_refl, not_false_eq_true, not_true_eq_false, true_and, and_true, and_self, if_true, if_false, p1.g0, p1.l1, c4]
    exact hQ
  rw [if_neg c4] at hQ
  by_cases c5 : x = nI 5
  · rw [if_pos c5] at hQ
    simp (disch := first | assumption | omega) only [e184_0, e184_1, e184_56, e184_57, e184_60, e184_61, e184_62, e184_65, e184_66, e184_67, e184_70, e184_71, e184_72, e184_75, e184_76, e184_77, e184_80, e184_82, e184_83, e184_84, e184_85, e184_88, e184_89, e184_90, e184_93, e184_94, e184_95, e184_98, e184_99, e184_100, e184_103, e184_104, e184_105, e184_108, e184_109, e184_110, q_gv0, q_gvs, q_isI1, q_isA1, q_hs0, q_hsn, q_hsi, q_hsr, q_hss, q_inc1, List.set_cons_zero, List.set_cons_succ, ↓reduceIte, q_ss0, q_ssi, q_ssr, q_nr0, q_nr10, q_nr11, q_tlS, q_tlN, q_cl, q_let, q_lef, q_ltt, q_ltf, q_eqt, q_eqf, q_add, q_mul, Nat.reduceAdd, Nat.reduceLeDiff, Nat.reduceEqDiff, eq_self, Nat.zero_le, Nat.le_refl, not_false_eq_true, not_true_eq_false, true_and, and_true, and_self, if_true, if_false, p1.o, cl183 h183, c5]
    exact hQ
  rw [if_neg c5] at hQ
  by_cases c6 : x = nI 6
  · rw [if_pos c6] at hQ
    simp (disch := first | assumption | omega) only [e184_0, e184_1, e184_56, e184_57, e184_60, e184_61, e184_62, e184_65, e184_66, e184_67, e184_70, e184_71, e184_72, e184_75, e184_76, e184_77, e184_80, e184_82, e184_83, e184_84, e184_85, e184_88, e184_89, e184_90, e184_93, e184_94, e184_95, e184_98, e184_99, e184_100, e184_103, e184_104, e184_105, e184_108, e184_109, e184_110, q_gv0, q_gvs, q_isI1, q_isA1, q_hs0, q_hsn, q_hsi, q_hsr, q_hss, q_inc1, List.set_cons_zero, List.set_cons_succ, ↓reduceIte, q_ss0, q_ssi, q_ssr, q_nr0, q_nr10, q_nr11, q_tlS, q_tlN, q_cl, q_let, q_lef, q_ltt, q_ltf, q_eqt, q_eqf, q_add, q_mul, Nat.reduceAdd, Nat.reduceLeDiff, Nat.reduceEqDiff, eq_self, Nat.zero_le, Nat.le_refl, not_false_eq_true, not_true_eq_false, true_and, and_true, and_self, if_true, if_false, p1.g14, c6]
    exact hQ
  rw [if_neg c6] at hQ
  by_cases c7 : x = nI 7
  · rw [if_pos c7] at hQ
    simp (disch := first | assumption | omega) only [e184_0, e184_1, e184_56, e184_57, e184_60, e184_61, e184_62, e184_65, e184_66, e184_67, e184_70, e184_71, e184_72, e184_75, e184_76, e184_77, e184_80, e184_82, e184_83, e184_84, e184_85, e184_88, e184_89, e184_90, e184_93, e184_94, e184_95, e184_98, e184_99, e184_100, e184_103, e184_104, e184_105, e184_108, e184_109, e184_110, q_gv0, q_gvs, q_isI1, q_isA1, q_hs0, q_hsn, q_hsi, q_hsr, q_hss, q_inc1, List.set_cons_zero, List.set_cons_succ, ↓reduceIte, q_ss0, q_ssi, q_ssr, q_nr0, q_nr10, q_nr11, q_tlS, q_tlN, q_cl, q_let, q_lef, q_ltt, q_ltf, q_eqt, q_eqf, q_add, q_mul, Nat.reduceAdd, Nat.reduceLeDiff, Nat.reduceEqDiff, eq_self, Nat.zero_le, Nat.le_refl, not_false_eq_true, not_true_eq_false, true_and, and_true, and_self, if_true, if_false, p1.g1, c7]
    exact hQ
  rw [if_neg c7] at hQ
  by_cases c8 : x = nI 8
  · rw [if_pos c8] at hQ
    simp (disch := first | assumption | omega) only [e184_0, e184_1, e184_56, e184_57, e184_60, e184_61, e184_62, e184_65, e184_66, e184_67, e184_70, e184_71, e184_72, e184_75, e184_76, e184_77, e184_80, e184_82, e184_83, e184_84, e184_85, e184_88, e184_89, e184_90, e184_93, e184_94, e184_95, e184_98, e184_99, e184_100, e184_103, e184_104, e184_105, e184_108, e184_109, e184_110, q_gv0, q_gvs, q_isI1, q_isA1, q_hs0, q_hsn, q_hsi, q_hsr, q_hss, q_inc1, List.set_cons_zero, List.set_cons_succ, ↓reduceIte, q_ss0, q_ssi, q_ssr, q_nr0, q_nr10, q_nr11, q_tlS, q_tlN, q_cl, q_let, q_lef, q_ltt, q_ltf, q_eqt, q_eqf, q_add, q_mul, Nat.reduceAdd, Nat.reduceLeDiff, Nat.reduceEqDiff, eq_self, Nat.zero_le, Nat.le_refl, not_false_eq_true, not_true_eq_false, true_and, and_true, and_self, if_true, if_false, p1.g2, c8]
    exact hQ
  rw [if_neg c8] at hQ
  by_cases c9 : x = nI 9
  · rw [if_pos c9] at hQ
    simp (disch := first | assumption | omega) only [e184_0, e184_1, e184_56, e184_57, e184_60, e184_61, e184_62, e184_65, e184_66, e184_67, e184_70, e184_71, e184_72, e184_75, e184_76, e184_77, e184_80, e184_82, e184_83, e184_84, e184_85, e184_88, e184_89, e184_90, e184_93, e184_94, e184_95, e184_98, e184_99, e184_100, e184_103, e184_104, e184_105, e184_108, e184_109, e184_110, q_gv0, q_gvs, q_isI1, q_isA1, q_hs0, q_hsn, q_hsi, q_hsr, q_hss, q_inc1, List.set_cons_zero, List.set_cons_succ, ↓reduceIte, q_ss0, q_ssi, q_ssr, q_nr0, q_nr10, q_nr11, q_tlS, q_tlN, q_cl, q_let, q_lef, q_ltt, q_ltf, q_eqt, q_eqf, q_add, q_mul, Nat.reduceAdd, Nat.reduceLeDiff, Nat.reduceEqDiff, eq_self, Nat.zero_le, Nat.le_refl, not_false_eq_true, not_true_eq_false, true_and, and_true, and_self, if_true, if_false, p1.g13, c9]
    exact hQ
  rw [if_neg c9] at hQ
  simp (disch := first | assumption | omega) only [e184_0, e184_1, e184_56, e184_57, e184_60, e184_61, e184_62, e184_65, e184_66, e184_67, e184_70, e184_71, e184_72, e184_75, e184_76, e184_77, e184_80, e184_82, e184_83, e184_84, e184_85, e184_88, e184_89, e184_90, e184_93, e184_94, e184_95, e184_98, e184_99, e184_100, e184_103, e184_104, e184_105, e184_108, e184_109, e184_110, q_gv0, q_gvs, q_isI1, q_isA1, q_hs0, q_hsn, q_hsi, q_hsr, q_hss, q_inc1, List.set_cons_zero, List.set_cons_succ, ↓reduceIte, q_ss0, q_ssi, q_ssr, q_nr0, q_nr10, q_nr11, q_tlS, q_tlN, q_cl, q_let, q_lef, q_ltt, q_ltf, q_eqt, q_eqf, q_add, q_mul, Nat.reduceAdd, Nat.reduceLeDiff, Nat.reduceEqDiff, eq_self, Nat.zero_le, Nat.le_refl, not_false_eq_true, not_true_eq_false, true_and, and_true, and_self, if_true, if_false, c0, c1, c2, c3, c4, c5, c6, c7, c8, c9]
  exact hQ
theorem kpA_u {M : mv_Mem} (h : ∃ n, n < 9 ∧ M 0 1 = nI n) : ∃ u, u < 8 ∧ kpA M 0 1 = nI u := by
  obtain ⟨n, hn, hN⟩ := h
  unfold kpA
  split
  · exact ⟨7, by decide, q_upS⟩
  · rename_i z
    refine ⟨n, ?_, hN⟩
    have : n ≠ 8 := fun e => z (by rw [hN, e])
    omega
theorem kpM_out {M : mv_Mem} {b : Nat} (h : ¬ b = 0) (h1 : ¬ b = 1) : kpM M b = M b := by
  unfold kpM
  rw [q_upO h, cpY_out h1]
  unfold kpA
  split
  · rw [q_upO h, cpY_out h1]
  · rfl
theorem kpM_0 {M : mv_Mem} {j : Nat} (h : ¬ j = 1) : kpM M 0 j = M 0 j := by
  unfold kpM
  rw [q_upN (by omega), cpY_out (by decide)]
  unfold kpA
  split
  · rw [q_upN (by omega), cpY_out (by decide)]
  · rfl
theorem kpM_lo {M : mv_Mem} {j : Nat} (h : j < 799) : kpM M 1 j = M 1 j := by
  unfold kpM
  rw [q_upO (by decide), cpY_at (by omega)]
  unfold kpA
  split
  · rw [q_upO (by decide), cpY_at (by omega)]
  · rfl
theorem gM_kp {M : mv_Mem} (h : gM M) : gM (kpM M) := gM_of h (kpM_0 (by decide)) (kpM_0 (by decide)) (kpM_0 (by decide)) (kpM_0 (by decide)) (kpM_out (by decide) (by decide)) (kpM_out (by decide) (by decide)) (kpM_out (by decide) (by decide)) (kpM_out (by decide) (by decide))
theorem cY_kp {M : mv_Mem} (hG : gM M) (h : cY M 0) : cY (kpM M) 0 := cY_of (gM6 hG) h (kpM_0 (by decide)) (fun j _ hj => kpM_lo (by omega))
def sp185 : mv_Sp := fun As sh M Q => As = [.ref 0] ∧ ((oM sh) ∧ (∃ n, n < 9 ∧ M 0 1 = nI n)) ∧ Q (some (.int (M 1 30))) (sh) (mv_up (kpM M) 1 30 (nI 0))
theorem cl185 {S : Nat → mv_Sp} (hS : S 185 = sp185) {sh : mv_Shp} {M : mv_Mem}  (p1 : oM sh) (p2 : ∃ n, n < 9 ∧ M 0 1 = nI n) {K : mv_Kt} {pc : Nat} {L : mv_Loc} {st : List Value} {cc_ ss_ : Nat} : mv_kal S 185 [.ref 0] sh M K pc L st cc_ ss_ = K pc L ((some (.int (M 1 30)) : Option Value).toList ++ st) (sh) (mv_up (kpM M) 1 30 (nI 0)) cc_ ss_ := by
  refine q_kal (fun F => q_cali (fun Q => ?_))
  rw [hS]
  constructor
  · rintro ⟨hE, ⟨zp1, zp2⟩, hQ⟩
    exact hQ
  · intro hQ
    exact ⟨rfl, ⟨p1, p2⟩, hQ⟩
theorem ct185 {S : Nat → mv_Sp} (h157 : S 157 = sp157) : ∀ As sh M P, sp185 As sh M P → (mv_al0 As).length ≤ 2 ∧ mr185 S P 0 (mv_ent As 2) [] sh M 0 0 := by
  rintro As sh M P ⟨rfl, ⟨p1, p2⟩, hQ⟩
  refine ⟨Nat.le_of_ble_eq_true rfl, ?_⟩
  show mr185 S P 0 [some (.ref 0), none] [] sh M 0 0
  have e : kpM M 1 30 = M 1 30 := kpM_lo (by decide)
  simp (disch := first | assumption | omega) only [e185_0, e185_1, e185_4, e185_5, e185_8, e185_10, e185_11, e185_12, e185_13, e185_16, e185_18, e185_19, e185_20, e185_21, q_gv0, q_gvs, q_isI1, q_isA1, q_hs0, q_hsn, q_hsi, q_hsr, q_hss, q_inc1, List.set_cons_zero, List.set_cons_succ, ↓reduceIte, q_ss0, q_ssi, q_ssr, q_nr0, q_nr10, q_nr11, q_tlS, q_tlN, q_cl, q_let, q_lef, q_ltt, q_ltf, q_eqt, q_eqf, q_add, q_mul, Nat.reduceAdd, Nat.reduceLeDiff, Nat.reduceEqDiff, eq_self, Nat.zero_le, Nat.le_refl, not_false_eq_true, not_true_eq_false, true_and, and_true, and_self, if_true, if_false, p1.o, p1.g0, p1.l1, p1.s1, cl157 h157, e]
  exact hQ
def sp186 : mv_Sp := fun As sh M Q => ∃ (x : Int32), As = [.ref 0, .int x] ∧ ((oM sh) ∧ (∃ n, n ≤ 8 ∧ M 0 10 = nI n)) ∧ Q (some (.int (if x < nI 0 then Int32.ofInt (-1) else if M 0 10 ≤ x then Int32.ofInt (-4) else M 6 x.toNatClampNeg))) (sh) (M)
theorem cl186 {S : Nat → mv_Sp} (hS : S 186 = sp186) {sh : mv_Shp} {M : mv_Mem} {x : Int32} (p1 : oM sh) (p2 : ∃ n, n ≤ 8 ∧ M 0 10 = nI n) {K : mv_Kt} {pc : Nat} {L : mv_Loc} {st : List Value} {cc_ ss_ : Nat} : mv_kal S 186 [.ref 0, .int x] sh M K pc L st cc_ ss_ = K pc L ((some (.int (if x < nI 0 then Int32.ofInt (-1) else if M 0 10 ≤ x then Int32.ofInt (-4) else M 6 x.toNatClampNeg)) : Option Value).toList ++ st) (sh) (M) cc_ ss_ := by
  refine q_kal (fun F => q_cali (fun Q => ?_))
  rw [hS]
  constructor
  · rintro ⟨x', hE, ⟨zp1, zp2⟩, hQ⟩
    simp only [List.cons.injEq, Value.ref.injEq, Value.int.injEq, Value.long.injEq, and_true, true_and] at hE
    subst hE
    exact hQ
  · intro hQ
    exact ⟨x, rfl, ⟨p1, p2⟩, hQ⟩
theorem ct186 {S : Nat → mv_Sp}  : ∀ As sh M P, sp186 As sh M P → (mv_al0 As).length ≤ 2 ∧ mr186 S P 0 (mv_ent As 2) [] sh M 0 0 := by
  rintro As sh M P ⟨x, rfl, ⟨p1, p2⟩, hQ⟩
  refine ⟨Nat.le_of_ble_eq_true rfl, ?_⟩
  show mr186 S P 0 [some (.ref 0), some (.int x)] [] sh M 0 0
  obtain ⟨n, hn, hN⟩ := p2
  rcases i32_c x with c1 | ⟨k, hk, rfl⟩
  · have c2 : ¬ nI 0 ≤ x := Int32.not_le.mpr c1
    rw [if_pos c1] at hQ
    simp (disch := first | assumption | omega) only [e186_0, e186_1, e186_4, e186_5, e186_8, e186_9, e186_10, e186_13, e186_16, e186_17, e186_20, e186_21, e186_22, e186_25, e186_27, q_gv0, q_gvs, q_isI1, q_isA1, q_hs0, q_hsn, q_hsi, q_hsr, q_hss, q_inc1, List.set_cons_zero, List.set_cons_succ, ↓reduceIte, q_ss0, q_ssi, q_ssr, q_nr0, q_nr10, q_nr11, q_tlS, q_tlN, q_cl, q_let, q_lef, q_ltt, q_ltf, q_eqt, q_eqf, q_add, q_mul, Nat.reduceAdd, Nat.reduceLeDiff, Nat.reduceEqDiff, eq_self, Nat.zero_le, Nat.le_refl, not_false_eq_true, not_true_eq_false, true_and, and_true, and_self, if_true, if_false, c2]
    exact hQ
  have c1 : ¬ nI k < nI 0 := Int32.not_lt.mpr (by rw [q_let (Nat.zero_le k) hk]; trivial)
  rw [if_neg c1, hN, q_cl hk] at hQ
  by_cases c2 : n ≤ k
  · rw [if_pos (by rw [q_let c2 hk]; trivial)] at hQ
    simp (disch := first | assumption | omega) only [e186_0, e186_1, e186_4, e186_5, e186_8, e186_9, e186_10, e186_13, e186_16, e186_17, e186_20, e186_21, e186_22, e186_25, e186_27, q_gv0, q_gvs, q_isI1, q_isA1, q_hs0, q_hsn, q_hsi, q_hsr, q_hss, q_inc1, List.set_cons_zero, List.set_cons_succ, ↓reduceIte, q_ss0, q_ssi, q_ssr, q_nr0, q_nr10, q_nr11, q_tlS, q_tlN, q_cl, q_let, q_lef, q_ltt, q_ltf, q_eqt, q_eqf, q_add, q_mul, Nat.reduceAdd, Nat.reduceLeDiff, Nat.reduceEqDiff, eq_self, Nat.zero_le, Nat.le_refl, not_false_eq_true, not_true_eq_false, true_and, and_true, and_self, if_true, if_false, p1.g10, hN]
    exact hQ
  · rw [if_neg (by rw [q_lef (by omega) (by omega)]; exact id)] at hQ
    simp (disch := first | assumption | omega) only [e186_0, e186_1, e186_4, e186_5, e186_8, e186_9, e186_10, e186_13, e186_16, e186_17, e186_20, e186_21, e186_22, e186_25, e186_27, q_gv0, q_gvs, q_isI1, q_isA1, q_hs0, q_hsn, q_hsi, q_hsr, q_hss, q_inc1, List.set_cons_zero, List.set_cons_succ, ↓reduceIte, q_ss0, q_ssi, q_ssr, q_nr0, q_nr10, q_nr11, q_tlS, q_tlN, q_cl, q_let, q_lef, q_ltt, q_ltf, q_eqt, q_eqf, q_add, q_mul, Nat.reduceAdd, Nat.reduceLeDiff, Nat.reduceEqDiff, eq_self, Nat.zero_le, Nat.le_refl, not_false_eq_true, not_true_eq_false, true_and, and_true, and_self, if_true, if_false, p1.g10, p1.g11, p1.l6, hN]
    exact hQ
def sp190 : mv_Sp := fun As sh M Q => As = [.ref 0] ∧ ((oM sh)) ∧ Q (some (.int (M 0 14))) (sh) (mv_up M 0 14 (nI 0))
theorem cl190 {S : Nat → mv_Sp} (hS : S 190 = sp190) {sh : mv_Shp} {M : mv_Mem}  (p1 : oM sh) {K : mv_Kt} {pc : Nat} {L : mv_Loc} {st : List Value} {cc_ ss_ : Nat} : mv_kal S 190 [.ref 0] sh M K pc L st cc_ ss_ = K pc L ((some (.int (M 0 14)) : Option Value).toList ++ st) (sh) (mv_up M 0 14 (nI 0)) cc_ ss_ := by
  refine q_kal (fun F => q_cali (fun Q => ?_))
  rw [hS]
  constructor
  · rintro ⟨hE, zp1, hQ⟩
    exact hQ
  · intro hQ
    exact ⟨rfl, p1, hQ⟩
theorem ct190 {S : Nat → mv_Sp}  : ∀ As sh M P, sp190 As sh M P → (mv_al0 As).length ≤ 2 ∧ mr190 S P 0 (mv_ent As 2) [] sh M 0 0 := by
  rintro As sh M P ⟨rfl, p1, hQ⟩
  refine ⟨Nat.le_of_ble_eq_true rfl, ?_⟩
  show mr190 S P 0 [some (.ref 0), none] [] sh M 0 0
  simp (disch := first | assumption | omega) only [e190_0, e190_1, e190_4, e190_5, e190_6, e190_7, e190_10, e190_11, q_gv0, q_gvs, q_isI1, q_isA1, q_hs0, q_hsn, q_hsi, q_hsr, q_hss, q_inc1, List.set_cons_zero, List.set_cons_succ, ↓reduceIte, q_ss0, q_ssi, q_ssr, q_nr0, q_nr10, q_nr11, q_tlS, q_tlN, q_cl, q_let, q_lef, q_ltt, q_ltf, q_eqt, q_eqf, q_add, q_mul, Nat.reduceAdd, Nat.reduceLeDiff, Nat.reduceEqDiff, eq_self, Nat.zero_le, Nat.le_refl, not_false_eq_true, not_true_eq_false, true_and, and_true, and_self, if_true, if_false, p1.g14, p1.p14]
  exact hQ
def sp182 : mv_Sp := fun As sh M Q => ∃ (x : Int32), As = [.ref 0, .int x] ∧ ((oM sh) ∧ (∃ n, n ≤ 6 ∧ M 0 3 = nI n) ∧ (∃ n, n < 9 ∧ M 0 1 = nI n)) ∧ Q (some (.int (if x < nI 0 then Int32.ofInt (-1) else if M 0 3 ≤ x then Int32.ofInt (-1) else M 1 (12 + x.toNatClampNeg) + nI 40))) (sh) (if x < nI 0 then M else if M 0 3 ≤ x then M else mv_up (kpM M) 1 (12 + x.toNatClampNeg) (nI 0))
theorem cl182 {S : Nat → mv_Sp} (hS : S 182 = sp182) {sh : mv_Shp} {M : mv_Mem} {x : Int32} (p1 : oM sh) (p2 : ∃ n, n ≤ 6 ∧ M 0 3 = nI n) (p3 : ∃ n, n < 9 ∧ M 0 1 = nI n) {K : mv_Kt} {pc : Nat} {L : mv_Loc} {st : List Value} {cc_ ss_ : Nat} : mv_kal S 182 [.ref 0, .int x] sh M K pc L st cc_ ss_ = K pc L ((some (.int (if x < nI 0 then Int32.ofInt (-1) else if M 0 3 ≤ x then Int32.ofInt (-1) else M 1 (12 + x.toNatClampNeg) + nI 40)) : Option Value).toList ++ st) (sh) (if x < nI 0 then M else if M 0 3 ≤ x then M else mv_up (kpM M) 1 (12 + x.toNatClampNeg) (nI 0)) cc_ ss_ := by
  refine q_kal (fun F => q_cali (fun Q => ?_))
  rw [hS]
  constructor
  · rintro ⟨x', hE, ⟨zp1, zp2, zp3⟩, hQ⟩
    simp only [List.cons.injEq, Value.ref.injEq, Value.int.injEq, Value.long.injEq, and_true, true_and] at hE
    subst hE
    exact hQ
  · intro hQ
    exact ⟨x, rfl, ⟨p1, p2, p3⟩, hQ⟩
theorem ct182 {S : Nat → mv_Sp} (h157 : S 157 = sp157) (h181 : S 181 = sp181) : ∀ As sh M P, sp182 As sh M P → (mv_al0 As).length ≤ 3 ∧ mr182 S P 0 (mv_ent As 3) [] sh M 0 0 := by
  rintro As sh M P ⟨x, rfl, ⟨p1, p2, p3⟩, hQ⟩
  refine ⟨Nat.le_of_ble_eq_true rfl, ?_⟩
  show mr182 S P 0 [some (.ref 0), some (.int x), none] [] sh M 0 0
  obtain ⟨n, hn, hN⟩ := id p2
  rcases i32_c x with c1 | ⟨k, hk, rfl⟩
  · simp only [c1, if_true] at hQ
    simp (disch := first | assumption | omega) only [e182_0, e182_1, e182_2, e182_5, e182_8, e182_9, e182_10, e182_11, e182_14, e182_15, e182_18, e182_20, e182_21, e182_22, e182_23, e182_24, e182_25, e182_28, e182_30, e182_31, e182_32, e182_33, e182_34, e182_35, e182_37, e182_38, q_gv0, q_gvs, q_isI1, q_isA1, q_hs0, q_hsn, q_hsi, q_hsr, q_hss, q_inc1, List.set_cons_zero, List.set_cons_succ, ↓reduceIte, q_ss0, q_ssi, q_ssr, q_nr0, q_nr10, q_nr11, q_tlS, q_tlN, q_cl, q_let, q_lef, q_ltt, q_ltf, q_eqt, q_eqf, q_add, q_mul, Nat.reduceAdd, Nat.reduceLeDiff, Nat.reduceEqDiff, eq_self, Nat.zero_le, Nat.le_refl, not_false_eq_true, not_true_eq_false, true_and, and_true, and_self, if_true, if_false, p1.o, cl181 h181, c1]
    exact hQ
  have c1 : (nI k < nI 0) = False := q_ltf (by omega) hk
  simp only [c1, if_false] at hQ
  by_cases c2 : n ≤ k
  · have c3 : (nI n ≤ nI k) = True := q_let c2 hk
    simp only [hN, c3, if_true] at hQ
    simp (disch := first | assumption | omega) only [e182_0, e182_1, e182_2, e182_5, e182_8, e182_9, e182_10, e182_11, e182_14, e182_15, e182_18, e182_20, e182_21, e182_22, e182_23, e182_24, e182_25, e182_28, e182_30, e182_31, e182_32, e182_33, e182_34, e182_35, e182_37, e182_38, q_gv0, q_gvs, q_isI1, q_isA1, q_hs0, q_hsn, q_hsi, q_hsr, q_hss, q_inc1, List.set_cons_zero, List.set_cons_succ, ↓reduceIte, q_ss0, q_ssi, q_ssr, q_nr0, q_nr10, q_nr11, q_tlS, q_tlN, q_cl, q_let, q_lef, q_ltt, q_ltf, q_eqt, q_eqf, q_add, q_mul, Nat.reduceAdd, Nat.reduceLeDiff, Nat.reduceEqDiff, eq_self, Nat.zero_le, Nat.le_refl, not_false_eq_true, not_true_eq_false, true_and, and_true, and_self, if_true, if_false, p1.o, cl181 h181, c1, hN, c3]
    exact hQ
  have c3 : (nI n ≤ nI k) = False := q_lef (by omega) (by omega)
  simp only [hN, c3, if_false, q_cl hk] at hQ
  have e : kpM M 1 (12 + k) = M 1 (12 + k) := kpM_lo (by omega)
  simp (disch := first | assumption | omega) only [e182_0, e182_1, e182_2, e182_5, e182_8, e182_9, e182_10, e182_11, e182_14, e182_15, e182_18, e182_20, e182_21, e182_22, e182_23, e182_24, e182_25, e182_28, e182_30, e182_31, e182_32, e182_33, e182_34, e182_35, e182_37, e182_38, q_gv0, q_gvs, q_isI1, q_isA1, q_hs0, q_hsn, q_hsi, q_hsr, q_hss, q_inc1, List.set_cons_zero, List.set_cons_succ, ↓reduceIte, q_ss0, q_ssi, q_ssr, q_nr0, q_nr10, q_nr11, q_tlS, q_tlN, q_cl, q_let, q_lef, q_ltt, q_ltf, q_eqt, q_eqf, q_add, q_mul, Nat.reduceAdd, Nat.reduceLeDiff, Nat.reduceEqDiff, eq_self, Nat.zero_le, Nat.le_refl, not_false_eq_true, not_true_eq_false, true_and, and_true, and_self, if_true, if_false, p1.o, p1.g0, p1.l1, p1.s1, cl181 h181, cl157 h157, c1, hN, c3, e]
  exact hQ
def sp189 : mv_Sp := fun As sh M Q => ∃ (x : Int32), As = [.ref 0, .int x] ∧ ((oM sh) ∧ (∃ n, n ≤ 6 ∧ M 0 3 = nI n) ∧ (∃ n, n < 9 ∧ M 0 1 = nI n)) ∧ Q (some (.int (if x < nI 0 then Int32.ofInt (-1) else if M 0 3 ≤ x then Int32.ofInt (-1) else nI 1 - M 1 (0 + x.toNatClampNeg)))) (sh) (if x < nI 0 then M else if M 0 3 ≤ x then M else mv_up (kpM M) 1 (0 + x.toNatClampNeg) (nI 1 - M 1 (0 + x.toNatClampNeg)))
theorem cl189 {S : Nat → mv_Sp} (hS : S 189 = sp189) {sh : mv_Shp} {M : mv_Mem} {x : Int32} (p1 : oM sh) (p2 : ∃ n, n ≤ 6 ∧ M 0 3 = nI n) (p3 : ∃ n, n < 9 ∧ M 0 1 = nI n) {K : mv_Kt} {pc : Nat} {L : mv_Loc} {st : List Value} {cc_ ss_ : Nat} : mv_kal S 189 [.ref 0, .int x] sh M K pc L st cc_ ss_ = K pc L ((some (.int (if x < nI 0 then Int32.ofInt (-1) else if M 0 3 ≤ x then Int32.ofInt (-1) else nI 1 - M 1 (0 + x.toNatClampNeg))) : Option Value).toList ++ st) (sh) (if x < nI 0 then M else if M 0 3 ≤ x then M else mv_up (kpM M) 1 (0 + x.toNatClampNeg) (nI 1 - M 1 (0 + x.toNatClampNeg))) cc_ ss_ := by
  refine q_kal (fun F => q_cali (fun Q => ?_))
  rw [hS]
  constructor
  · rintro ⟨x', hE, ⟨zp1, zp2, zp3⟩, hQ⟩
    simp only [List.cons.injEq, Value.ref.injEq, Value.int.injEq, Value.long.injEq, and_true, true_and] at hE
    subst hE
    exact hQ
  · intro hQ
    exact ⟨x, rfl, ⟨p1, p2, p3⟩, hQ⟩
theorem ct189 {S : Nat → mv_Sp} (h157 : S 157 = sp157) (h181 : S 181 = sp181) : ∀ As sh M P, sp189 As sh M P → (mv_al0 As).length ≤ 2 ∧ mr189 S P 0 (mv_ent As 2) [] sh M 0 0 := by
  rintro As sh M P ⟨x, rfl, ⟨p1, p2, p3⟩, hQ⟩
  refine ⟨Nat.le_of_ble_eq_true rfl, ?_⟩
  show mr189 S P 0 [some (.ref 0), some (.int x)] [] sh M 0 0
  obtain ⟨n, hn, hN⟩ := id p2
  rcases i32_c x with c1 | ⟨k, hk, rfl⟩
  · simp only [c1, if_true] at hQ
    simp (disch := first | assumption | omega) only [e189_0, e189_1, e189_2, e189_5, e189_8, e189_9, e189_10, e189_11, e189_14, e189_15, e189_18, e189_19, e189_20, e189_21, e189_22, e189_23, e189_26, e189_27, e189_28, e189_29, e189_30, e189_31, e189_32, e189_33, e189_36, e189_37, e189_38, e189_39, e189_40, q_gv0, q_gvs, q_isI1, q_isA1, q_hs0, q_hsn, q_hsi, q_hsr, q_hss, q_inc1, List.set_cons_zero, List.set_cons_succ, ↓reduceIte, q_ss0, q_ssi, q_ssr, q_nr0, q_nr10, q_nr11, q_tlS, q_tlN, q_cl, q_let, q_lef, q_ltt, q_ltf, q_eqt, q_eqf, q_add, q_mul, Nat.reduceAdd, Nat.reduceLeDiff, Nat.reduceEqDiff, eq_self, Nat.zero_le, Nat.le_refl, not_false_eq_true, not_true_eq_false, true_and, and_true, and_self, if_true, if_false, p1.o, cl181 h181, c1]
    exact hQ
  have c1 : (nI k < nI 0) = False := q_ltf (by omega) hk
  simp only [c1, if_false] at hQ
  by_cases c2 : n ≤ k
  · have c3 : (nI n ≤ nI k) = True := q_let c2 hk
    simp only [hN, c3, if_true] at hQ
    simp (disch := first | assumption | omega) only [e189_0, e189_1, e189_2, e189_5, e189_8, e189_9, e189_10, e189_11, e189_14, e189_15, e189_18, e189_19, e189_20, e189_21, e189_22, e189_23, e189_26, e189_27, e189_28, e189_29, e189_30, e189_31, e189_32, e189_33, e189_36, e189_37, e189_38, e189_39, e189_40, q_gv0, q_gvs, q_isI1, q_isA1, q_hs0, q_hsn, q_hsi, q_hsr, q_hss, q_inc1, List.set_cons_zero, List.set_cons_succ, ↓reduceIte, q_ss0, q_ssi, q_ssr, q_nr0, q_nr10, q_nr11, q_tlS, q_tlN, q_cl, q_let, q_lef, q_ltt, q_ltf, q_eqt, q_eqf, q_add, q_mul, Nat.reduceAdd, Nat.reduceLeDiff, Nat.reduceEqDiff, eq_self, Nat.zero_le, Nat.le_refl, not_false_eq_true, not_true_eq_false, true_and, and_true, and_self, if_true, if_false, p1.o, cl181 h181, c1, hN, c3]
    exact hQ
  have c3 : (nI n ≤ nI k) = False := q_lef (by omega) (by omega)
  simp only [hN, c3, if_false, q_cl hk] at hQ
  have e : kpM M 1 (0 + k) = M 1 (0 + k) := kpM_lo (by omega)
  simp (disch := first | assumption | omega) only [e189_0, e189_1, e189_2, e189_5, e189_8, e189_9, e189_10, e189_11, e189_14, e189_15, e189_18, e189_19, e189_20, e189_21, e189_22, e189_23, e189_26, e189_27, e189_28, e189_29, e189_30, e189_31, e189_32, e189_33, e189_36, e189_37, e189_38, e189_39, e189_40, q_gv0, q_gvs, q_isI1, q_isA1, q_hs0, q_hsn, q_hsi, q_hsr, q_hss, q_inc1, List.set_cons_zero, List.set_cons_succ, ↓reduceIte, q_ss0, q_ssi, q_ssr, q_nr0, q_nr10, q_nr11, q_tlS, q_tlN, q_cl, q_let, q_lef, q_ltt, q_ltf, q_eqt, q_eqf, q_add, q_mul, Nat.reduceAdd, Nat.reduceLeDiff, Nat.reduceEqDiff, eq_self, Nat.zero_le, Nat.le_refl, not_false_eq_true, not_true_eq_false, true_and, and_true, and_self, if_true, if_false, p1.o, p1.g0, p1.l1, p1.s1, cl181 h181, cl157 h157, c1, hN, c3, e, q_upS]
  exact hQ
def sp192 : mv_Sp := fun As sh M Q => ∃ (x : Int32) (y : Int32), As = [.ref 0, .int x, .int y] ∧ ((oM sh) ∧ (∃ n, n ≤ 6 ∧ M 0 3 = nI n)) ∧ Q (some (.int (if x < nI 0 then Int32.ofInt (-1) else if M 0 3 ≤ x then Int32.ofInt (-1) else if y < nI 0 then Int32.ofInt (-1) else if nI 4 ≤ y then Int32.ofInt (-1) else M 3 (4 * x.toNatClampNeg + y.toNatClampNeg)))) (sh) (M)
theorem cl192 {S : Nat → mv_Sp} (hS : S 192 = sp192) {sh : mv_Shp} {M : mv_Mem} {x : Int32} {y : Int32} (p1 : oM sh) (p2 : ∃ n, n ≤ 6 ∧ M 0 3 = nI n) {K : mv_Kt} {pc : Nat} {L : mv_Loc} {st : List Value} {cc_ ss_ : Nat} : mv_kal S 192 [.ref 0, .int x, .int y] sh M K pc L st cc_ ss_ = K pc L ((some (.int (if x < nI 0 then Int32.ofInt (-1) else if M 0 3 ≤ x then Int32.ofInt (-1) else if y < nI 0 then Int32.ofInt (-1) else if nI 4 ≤ y then Int32.ofInt (-1) else M 3 (4 * x.toNatClampNeg + y.toNatClampNeg))) : Option Value).toList ++ st) (sh) (M) cc_ ss_ := by
  refine q_kal (fun F => q_cali (fun Q => ?_))
  rw [hS]
  constructor
  · rintro ⟨x', y', hE, ⟨zp1, zp2⟩, hQ⟩
    simp only [List.cons.injEq, Value.ref.injEq, Value.int.injEq, Value.long.injEq, and_true, true_and] at hE
    obtain ⟨rfl, rfl⟩ := hE
    exact hQ
  · intro hQ
    exact ⟨x, y, rfl, ⟨p1, p2⟩, hQ⟩
theorem ct192 {S : Nat → mv_Sp} (h144 : S 144 = sp144) (h181 : S 181 = sp181) : ∀ As sh M P, sp192 As sh M P → (mv_al0 As).length ≤ 3 ∧ mr192 S P 0 (mv_ent As 3) [] sh M 0 0 := by
  rintro As sh M P ⟨x, y, rfl, ⟨p1, p2⟩, hQ⟩
  refine ⟨Nat.le_of_ble_eq_true rfl, ?_⟩
  show mr192 S P 0 [some (.ref 0), some (.int x), some (.int y)] [] sh M 0 0
  obtain ⟨n, hn, hN⟩ := id p2
  have i4 : nI (inN y (nI 0) (nI 3)) = if y < nI 0 then nI 0 else if nI 4 ≤ y then nI 0 else nI 1 := by
    have := @in_0 4 y (by decide)
    rw [show nI 4 - nI 1 = nI 3 by decide] at this
    exact this
  rcases i32_c x with c1 | ⟨k, hk, rfl⟩
  · simp only [c1, if_true] at hQ
    simp (disch := first | assumption | omega) only [e192_0, e192_1, e192_2, e192_5, e192_8, e192_9, e192_10, e192_11, e192_14, e192_17, e192_20, e192_21, e192_24, e192_25, e192_26, e192_27, e192_28, e192_29, e192_30, e192_33, e192_34, q_gv0, q_gvs, q_isI1, q_isA1, q_hs0, q_hsn, q_hsi, q_hsr, q_hss, q_inc1, List.set_cons_zero, List.set_cons_succ, ↓reduceIte, q_ss0, q_ssi, q_ssr, q_nr0, q_nr10, q_nr11, q_tlS, q_tlN, q_cl, q_let, q_lef, q_ltt, q_ltf, q_eqt, q_eqf, q_add, q_mul, Nat.reduceAdd, Nat.reduceLeDiff, Nat.reduceEqDiff, eq_self, Nat.zero_le, Nat.le_refl, not_false_eq_true, not_true_eq_false, true_and, and_true, and_self, if_true, if_false, p1.o, cl181 h181, c1]
    exact hQ
  have c1 : (nI k < nI 0) = False := q_ltf (by omega) hk
  simp only [c1, if_false] at hQ
  by_cases c2 : n ≤ k
  · have c3 : (nI n ≤ nI k) = True := q_let c2 hk
    simp only [hN, c3, if_true] at hQ
    simp (disch := first | assumption | omega) only [e192_0, e192_1, e192_2, e192_5, e192_8, e192_9, e192_10, e192_11, e192_14, e192_17, e192_20, e192_21, e192_24, e192_25, e192_26, e192_27, e192_28, e192_29, e192_30, e192_33, e192_34, q_gv0, q_gvs, q_isI1, q_isA1, q_hs0, q_hsn, q_hsi, q_hsr, q_hss, q_inc1, List.set_cons_zero, List.set_cons_succ, ↓reduceIte, q_ss0, q_ssi, q_ssr, q_nr0, q_nr10, q_nr11, q_tlS, q_tlN, q_cl, q_let, q_lef, q_ltt, q_ltf, q_eqt, q_eqf, q_add, q_mul, Nat.reduceAdd, Nat.reduceLeDiff, Nat.reduceEqDiff, eq_self, Nat.zero_le, Nat.le_refl, not_false_eq_true, not_true_eq_false, true_and, and_true, and_self, if_true, if_false, p1.o, cl181 h181, c1, hN, c3]
    exact hQ
  have c3 : (nI n ≤ nI k) = False := q_lef (by omega) (by omega)
  simp only [hN, c3, if_false, q_cl hk] at hQ
  rcases i32_c y with d1 | ⟨j, hj, rfl⟩
  · simp only [d1, if_true] at hQ i4
    simp (disch := first | assumption | omega) only [e192_0, e192_1, e192_2, e192_5, e192_8, e192_9, e192_10, e192_11, e192_14, e192_17, e192_20, e192_21, e192_24, e192_25, e192_26, e192_27, e192_28, e192_29, e192_30, e192_33, e192_34, q_gv0, q_gvs, q_isI1, q_isA1, q_hs0, q_hsn, q_hsi, q_hsr, q_hss, q_inc1, List.set_cons_zero, List.set_cons_succ, ↓reduceIte, q_ss0, q_ssi, q_ssr, q_nr0, q_nr10, q_nr11, q_tlS, q_tlN, q_cl, q_let, q_lef, q_ltt, q_ltf, q_eqt, q_eqf, q_add, q_mul, Nat.reduceAdd, Nat.reduceLeDiff, Nat.reduceEqDiff, eq_self, Nat.zero_le, Nat.le_refl, not_false_eq_true, not_true_eq_false, true_and, and_true, and_self, if_true, if_false, q_isL1, q_lc, cr144 h144, p1.o, cl181 h181, c1, hN, c3, i4]
    exact hQ
  have d1 : (nI j < nI 0) = False := q_ltf (by omega) hj
  simp only [d1, if_false] at hQ i4
  by_cases d2 : 4 ≤ j
  · have d3 : (nI 4 ≤ nI j) = True := q_let d2 hj
    simp only [d3, if_true] at hQ i4
    simp (disch := first | assumption | omega) only [e192_0, e192_1, e192_2, e192_5, e192_8, e192_9, e192_10, e192_11, e192_14, e192_17, e192_20, e192_21, e192_24, e192_25, e192_26, e192_27, e192_28, e192_29, e192_30, e192_33, e192_34, q_gv0, q_gvs, q_isI1, q_isA1, q_hs0, q_hsn, q_hsi, q_hsr, q_hss, q_inc1, List.set_cons_zero, List.set_cons_succ, ↓reduceIte, q_ss0, q_ssi, q_ssr, q_nr0, q_nr10, q_nr11, q_tlS, q_tlN, q_cl, q_let, q_lef, q_ltt, q_ltf, q_eqt, q_eqf, q_add, q_mul, Nat.reduceAdd, Nat.reduceLeDiff, Nat.reduceEqDiff, eq_self, Nat.zero_le, Nat.le_refl, not_false_eq_true, not_true_eq_false, true_and, and_true, and_self, if_true, if_false, q_isL1, q_lc, cr144 h144, p1.o, cl181 h181, c1, hN, c3, i4]
    exact hQ
  have d3 : (nI 4 ≤ nI j) = False := q_lef (by omega) (by omega)
  simp only [d3, if_false, q_cl hj] at hQ i4
  simp (disch := first | assumption | omega) only [e192_0, e192_1, e192_2, e192_5, e192_8, e192_9, e192_10, e192_11, e192_14, e192_17, e192_20, e192_21, e192_24, e192_25, e192_26, e192_27, e192_28, e192_29, e192_30, e192_33, e192_34, q_gv0, q_gvs, q_isI1, q_isA1, q_hs0, q_hsn, q_hsi, q_hsr, q_hss, q_inc1, List.set_cons_zero, List.set_cons_succ, ↓reduceIte, q_ss0, q_ssi, q_ssr, q_nr0, q_nr10, q_nr11, q_tlS, q_tlN, q_cl, q_let, q_lef, q_ltt, q_ltf, q_eqt, q_eqf, q_add, q_mul, Nat.reduceAdd, Nat.reduceLeDiff, Nat.reduceEqDiff, eq_self, Nat.zero_le, Nat.le_refl, not_false_eq_true, not_true_eq_false, true_and, and_true, and_self, if_true, if_false, q_isL1, q_lc, cr144 h144, p1.o, p1.g5, p1.l3, cl181 h181, c1, hN, c3, i4]
  exact hQ
def sp196 : mv_Sp := fun As sh M Q => As = [.ref 0] ∧ ((oM sh) ∧ (∃ n, n < 3 ∧ M 0 2 = nI n)) ∧ Q (some (.int (if M 0 2 = nI 2 then Int32.ofInt (-3) else nI ((M 0 2).toNatClampNeg + 1)))) (sh) (if M 0 2 = nI 2 then M else mv_up (cpY M 0 (7191 + 799 * (M 0 2).toNatClampNeg) 799) 0 2 (nI ((M 0 2).toNatClampNeg + 1)))
theorem cl196 {S : Nat → mv_Sp} (hS : S 196 = sp196) {sh : mv_Shp} {M : mv_Mem}  (p1 : oM sh) (p2 : ∃ n, n < 3 ∧ M 0 2 = nI n) {K : mv_Kt} {pc : Nat} {L : mv_Loc} {st : List Value} {cc_ ss_ : Nat} : mv_kal S 196 [.ref 0] sh M K pc L st cc_ ss_ = K pc L ((some (.int (if M 0 2 = nI 2 then Int32.ofInt (-3) else nI ((M 0 2).toNatClampNeg + 1))) : Option Value).toList ++ st) (sh) (if M 0 2 = nI 2 then M else mv_up (cpY M 0 (7191 + 799 * (M 0 2).toNatClampNeg) 799) 0 2 (nI ((M 0 2).toNatClampNeg + 1))) cc_ ss_ := by
  refine q_kal (fun F => q_cali (fun Q => ?_))
  rw [hS]
  constructor
  · rintro ⟨hE, ⟨zp1, zp2⟩, hQ⟩
    exact hQ
  · intro hQ
    exact ⟨rfl, ⟨p1, p2⟩, hQ⟩
theorem ct196 {S : Nat → mv_Sp} (h156 : S 156 = sp156) : ∀ As sh M P, sp196 As sh M P → (mv_al0 As).length ≤ 1 ∧ mr196 S P 0 (mv_ent As 1) [] sh M 0 0 := by
  rintro As sh M P ⟨rfl, ⟨p1, p2⟩, hQ⟩
  refine ⟨Nat.le_of_ble_eq_true rfl, ?_⟩
  show mr196 S P 0 [some (.ref 0)] [] sh M 0 0
  obtain ⟨n, hn, hN⟩ := id p2
  by_cases c : n = 2
  · subst c
    rw [if_pos hN, if_pos hN] at hQ
    simp (disch := first | assumption | omega) only [e196_0, e196_1, e196_4, e196_5, e196_8, e196_10, e196_11, e196_12, e196_13, e196_16, e196_19, e196_20, e196_23, e196_24, e196_25, e196_28, e196_29, e196_29r, e196_30, e196_33, e196_34, e196_35, e196_38, e196_39, e196_42, q_gv0, q_gvs, q_isI1, q_isA1, q_hs0, q_hsn, q_hsi, q_hsr, q_hss, q_inc1, List.set_cons_zero, List.set_cons_succ, ↓reduceIte, q_ss0, q_ssi, q_ssr, q_nr0, q_nr10, q_nr11, q_tlS, q_tlN, q_cl, q_let, q_lef, q_ltt, q_ltf, q_eqt, q_eqf, q_add, q_mul, Nat.reduceAdd, Nat.reduceLeDiff, Nat.reduceEqDiff, eq_self, Nat.zero_le, Nat.le_refl, not_false_eq_true, not_true_eq_false, true_and, and_true, and_self, if_true, if_false, p1.g2, hN]
    exact hQ
  have c4 : ¬ M 0 2 = nI 2 := fun z => c ((nI_eq (by omega) (by omega)).mp (hN.symm.trans z))
  rw [if_neg c4, if_neg c4, hN, q_cl (by omega)] at hQ
  have e : cpY M 0 (7191 + 799 * n) 799 0 2 = nI n := by rw [cpY_out (by decide)]; exact hN
  simp (disch := first | assumption | omega) only [e196_0, e196_1, e196_4, e196_5, e196_8, e196_10, e196_11, e196_12, e196_13, e196_16, e196_19, e196_20, e196_23, e196_24, e196_25, e196_28, e196_29, e196_29r, e196_30, e196_33, e196_34, e196_35, e196_38, e196_39, e196_42, e196_29r, q_gv0, q_gvs, q_isI1, q_isA1, q_hs0, q_hsn, q_hsi, q_hsr, q_hss, q_inc1, List.set_cons_zero, List.set_cons_succ, ↓reduceIte, q_ss0, q_ssi, q_ssr, q_nr0, q_nr10, q_nr11, q_tlS, q_tlN, q_cl, q_let, q_lef, q_ltt, q_ltf, q_eqt, q_eqf, q_add, q_mul, Nat.reduceAdd, Nat.reduceLeDiff, Nat.reduceEqDiff, eq_self, Nat.zero_le, Nat.le_refl, not_false_eq_true, not_true_eq_false, true_and, and_true, and_self, if_true, if_false, p1.o, p1.g2, p1.p2, hN, cl156 h156, e, q_upS]
  exact hQ
def sp173 : mv_Sp := fun As sh M Q => As = [.ref 0] ∧ ((oM sh) ∧ (∃ n, n < 3 ∧ M 0 2 = nI n)) ∧ Q (some (.int (if M 0 2 = nI 0 then Int32.ofInt (-2) else nI ((M 0 2).toNatClampNeg - 1)))) (sh) (if M 0 2 = nI 0 then M else mv_up (cpY (mv_up M 0 2 (nI ((M 0 2).toNatClampNeg - 1))) (7191 + 799 * ((M 0 2).toNatClampNeg - 1)) 0 799) 0 1 (nI 0))
theorem cl173 {S : Nat → mv_Sp} (hS : S 173 = sp173) {sh : mv_Shp} {M : mv_Mem}  (p1 : oM sh) (p2 : ∃ n, n < 3 ∧ M 0 2 = nI n) {K : mv_Kt} {pc : Nat} {L : mv_Loc} {st : List Value} {cc_ ss_ : Nat} : mv_kal S 173 [.ref 0] sh M K pc L st cc_ ss_ = K pc L ((some (.int (if M 0 2 = nI 0 then Int32.ofInt (-2) else nI ((M 0 2).toNatClampNeg - 1))) : Option Value).toList ++ st) (sh) (if M 0 2 = nI 0 then M else mv_up (cpY (mv_up M 0 2 (nI ((M 0 2).toNatClampNeg - 1))) (7191 + 799 * ((M 0 2).toNatClampNeg - 1)) 0 799) 0 1 (nI 0)) cc_ ss_ := by
  refine q_kal (fun F => q_cali (fun Q => ?_))
  rw [hS]
  constructor
  · rintro ⟨hE, ⟨zp1, zp2⟩, hQ⟩
    exact hQ
  · intro hQ
    exact ⟨rfl, ⟨p1, p2⟩, hQ⟩
theorem ct173 {S : Nat → mv_Sp} (h156 : S 156 = sp156) : ∀ As sh M P, sp173 As sh M P → (mv_al0 As).length ≤ 1 ∧ mr173 S P 0 (mv_ent As 1) [] sh M 0 0 := by
  rintro As sh M P ⟨rfl, ⟨p1, p2⟩, hQ⟩
  refine ⟨Nat.le_of_ble_eq_true rfl, ?_⟩
  show mr173 S P 0 [some (.ref 0)] [] sh M 0 0
  obtain ⟨n, hn, hN⟩ := id p2
  by_cases c : n = 0
  · subst c
    rw [if_pos hN, if_pos hN] at hQ
    simp (disch := first | assumption | omega) only [e173_0, e173_1, e173_4, e173_7, e173_9, e173_10, e173_11, e173_11r, e173_12, e173_15, e173_16, e173_17, e173_20, e173_21, e173_24, e173_27, e173_28, e173_31, e173_32, e173_33, e173_34, e173_37, e173_38, e173_39, e173_42, e173_43, e173_46, q_gv0, q_gvs, q_isI1, q_isA1, q_hs0, q_hsn, q_hsi, q_hsr, q_hss, q_inc1, List.set_cons_zero, List.set_cons_succ, ↓reduceIte, q_ss0, q_ssi, q_ssr, q_nr0, q_nr10, q_nr11, q_tlS, q_tlN, q_cl, q_let, q_lef, q_ltt, q_ltf, q_eqt, q_eqf, q_add, q_mul, Nat.reduceAdd, Nat.reduceLeDiff, Nat.reduceEqDiff, eq_self, Nat.zero_le, Nat.le_refl, not_false_eq_true, not_true_eq_false, true_and, and_true, and_self, if_true, if_false, p1.g2, hN]
    exact hQ
  have c4 : ¬ M 0 2 = nI 0 := fun z => c ((nI_eq (by omega) (by omega)).mp (hN.symm.trans z))
  rw [if_neg c4, if_neg c4, hN, q_cl (by omega)] at hQ
  have n1 : 1 ≤ n := by omega
  have e : cpY (mv_up M 0 2 (nI (n - 1))) (7191 + 799 * (n - 1)) 0 799 0 2 = nI (n - 1) := by rw [cpY_out (by decide), q_upS]
  simp (disch := first | assumption | omega) only [e173_0, e173_1, e173_4, e173_7, e173_9, e173_10, e173_11, e173_11r, e173_12, e173_15, e173_16, e173_17, e173_20, e173_21, e173_24, e173_27, e173_28, e173_31, e173_32, e173_33, e173_34, e173_37, e173_38, e173_39, e173_42, e173_43, e173_46, e173_11r, q_gv0, q_gvs, q_isI1, q_isA1, q_hs0, q_hsn, q_hsi, q_hsr, q_hss, q_inc1, List.set_cons_zero, List.set_cons_succ, ↓reduceIte, q_ss0, q_ssi, q_ssr, q_nr0, q_nr10, q_nr11, q_tlS, q_tlN, q_cl, q_let, q_lef, q_ltt, q_ltf, q_eqt, q_eqf, q_add, q_mul, Nat.reduceAdd, Nat.reduceLeDiff, Nat.reduceEqDiff, eq_self, Nat.zero_le, Nat.le_refl, not_false_eq_true, not_true_eq_false, true_and, and_true, and_self, if_true, if_false, p1.o, p1.g2, p1.p2, p1.p1, hN, c, q_sub, q_upS, q_upN, cl156 h156, e]
  exact hQ
def sp210 : mv_Sp := fun As sh M Q => As = [.ref 0] ∧ ((oM sh) ∧ (∃ n, n < 9 ∧ M 0 1 = nI n)) ∧ Q (some (.int (if M 0 1 = nI 0 then Int32.ofInt (-2) else nI ((M 0 1).toNatClampNeg - 1)))) (sh) (if M 0 1 = nI 0 then M else cpY (mv_up M 0 1 (nI ((M 0 1).toNatClampNeg - 1))) (799 + 799 * ((M 0 1).toNatClampNeg - 1)) 0 799)
theorem cl210 {S : Nat → mv_Sp} (hS : S 210 = sp210) {sh : mv_Shp} {M : mv_Mem}  (p1 : oM sh) (p2 : ∃ n, n < 9 ∧ M 0 1 = nI n) {K : mv_Kt} {pc : Nat} {L : mv_Loc} {st : List Value} {cc_ ss_ : Nat} : mv_kal S 210 [.ref 0] sh M K pc L st cc_ ss_ = K pc L ((some (.int (if M 0 1 = nI 0 then Int32.ofInt (-2) else nI ((M 0 1).toNatClampNeg - 1))) : Option Value).toList ++ st) (sh) (if M 0 1 = nI 0 then M else cpY (mv_up M 0 1 (nI ((M 0 1).toNatClampNeg - 1))) (799 + 799 * ((M 0 1).toNatClampNeg - 1)) 0 799) cc_ ss_ := by
  refine q_kal (fun F => q_cali (fun Q => ?_))
  rw [hS]
  constructor
  · rintro ⟨hE, ⟨zp1, zp2⟩, hQ⟩
    exact hQ
  · intro hQ
    exact ⟨rfl, ⟨p1, p2⟩, hQ⟩
theorem ct210 {S : Nat → mv_Sp} (h156 : S 156 = sp156) : ∀ As sh M P, sp210 As sh M P → (mv_al0 As).length ≤ 1 ∧ mr210 S P 0 (mv_ent As 1) [] sh M 0 0 := by
  rintro As sh M P ⟨rfl, ⟨p1, p2⟩, hQ⟩
  refine ⟨Nat.le_of_ble_eq_true rfl, ?_⟩
  show mr210 S P 0 [some (.ref 0)] [] sh M 0 0
  obtain ⟨n, hn, hN⟩ := id p2
  by_cases c : n = 0
  · subst c
    rw [if_pos hN, if_pos hN] at hQ
    simp (disch := first | assumption | omega) only [e210_0, e210_1, e210_4, e210_7, e210_9, e210_10, e210_11, e210_11r, e210_12, e210_15, e210_16, e210_17, e210_20, e210_21, e210_24, e210_27, e210_28, e210_31, e210_32, e210_33, e210_34, e210_37, e210_38, e210_41, q_gv0, q_gvs, q_isI1, q_isA1, q_hs0, q_hsn, q_hsi, q_hsr, q_hss, q_inc1, List.set_cons_zero, List.set_cons_succ, ↓reduceIte, q_ss0, q_ssi, q_ssr, q_nr0, q_nr10, q_nr11, q_tlS, q_tlN, q_cl, q_let, q_lef, q_ltt, q_ltf, q_eqt, q_eqf, q_add, q_mul, Nat.reduceAdd, Nat.reduceLeDiff, Nat.reduceEqDiff, eq_self, Nat.zero_le, Nat.le_refl, not_false_eq_true, not_true_eq_false, true_and, and_true, and_self, if_true, if_false, p1.g1, hN]
    exact hQ
  have c4 : ¬ M 0 1 = nI 0 := fun z => c ((nI_eq (by omega) (by omega)).mp (hN.symm.trans z))
  rw [if_neg c4, if_neg c4, hN, q_cl (by omega)] at hQ
  have n1 : 1 ≤ n := by omega
  have e : cpY (mv_up M 0 1 (nI (n - 1))) (799 + 799 * (n - 1)) 0 799 0 1 = nI (n - 1) := by rw [cpY_out (by decide), q_upS]
  simp (disch := first | assumption | omega) only [e210_0, e210_1, e210_4, e210_7, e210_9, e210_10, e210_11, e210_11r, e210_12, e210_15, e210_16, e210_17, e210_20, e210_21, e210_24, e210_27, e210_28, e210_31, e210_32, e210_33, e210_34, e210_37, e210_38, e210_41, e210_11r, q_gv0, q_gvs, q_isI1, q_isA1, q_hs0, q_hsn, q_hsi, q_hsr, q_hss, q_inc1, List.set_cons_zero, List.set_cons_succ, ↓reduceIte, q_ss0, q_ssi, q_ssr, q_nr0, q_nr10, q_nr11, q_tlS, q_tlN, q_cl, q_let, q_lef, q_ltt, q_ltf, q_eqt, q_eqf, q_add, q_mul, Nat.reduceAdd, Nat.reduceLeDiff, Nat.reduceEqDiff, eq_self, Nat.zero_le, Nat.le_refl, not_false_eq_true, not_true_eq_false, true_and, and_true, and_self, if_true, if_false, p1.o, p1.g1, p1.p1, hN, c, q_sub, q_upS, cl156 h156, e]
  exact hQ
def sp201 : mv_Sp := fun As sh M Q => ∃ (x : Int32), As = [.ref 0, .int x] ∧ ((oM sh) ∧ (∃ n, n ≤ 6 ∧ M 0 7 = nI n)) ∧ Q (some (.int (if x < nI 0 then Int32.ofInt (-1) else if M 0 7 ≤ x then Int32.ofInt (-1) else M 5 x.toNatClampNeg))) (sh) (M)
theorem cl201 {S : Nat → mv_Sp} (hS : S 201 = sp201) {sh : mv_Shp} {M : mv_Mem} {x : Int32} (p1 : oM sh) (p2 : ∃ n, n ≤ 6 ∧ M 0 7 = nI n) {K : mv_Kt} {pc : Nat} {L : mv_Loc} {st : List Value} {cc_ ss_ : Nat} : mv_kal S 201 [.ref 0, .int x] sh M K pc L st cc_ ss_ = K pc L ((some (.int (if x < nI 0 then Int32.ofInt (-1) else if M 0 7 ≤ x then Int32.ofInt (-1) else M 5 x.toNatClampNeg)) : Option Value).toList ++ st) (sh) (M) cc_ ss_ := by
  refine q_kal (fun F => q_cali (fun Q => ?_))
  rw [hS]
  constructor
  · rintro ⟨x', hE, ⟨zp1, zp2⟩, hQ⟩
    simp only [List.cons.injEq, Value.ref.injEq, Value.int.injEq, Value.long.injEq, and_true, true_and] at hE
    subst hE
    exact hQ
  · intro hQ
    exact ⟨x, rfl, ⟨p1, p2⟩, hQ⟩
theorem ct201 {S : Nat → mv_Sp} (h193 : S 193 = sp193) : ∀ As sh M P, sp201 As sh M P → (mv_al0 As).length ≤ 2 ∧ mr201 S P 0 (mv_ent As 2) [] sh M 0 0 := by
  rintro As sh M P ⟨x, rfl, ⟨p1, p2⟩, hQ⟩
  refine ⟨Nat.le_of_ble_eq_true rfl, ?_⟩
  show mr201 S P 0 [some (.ref 0), some (.int x)] [] sh M 0 0
  obtain ⟨n, hn, hN⟩ := id p2
  rcases i32_c x with c1 | ⟨k, hk, rfl⟩
  · simp only [c1, if_true] at hQ
    simp (disch := first | assumption | omega) only [e201_0, e201_1, e201_2, e201_5, e201_8, e201_9, e201_12, e201_13, e201_14, e201_17, e201_18, q_gv0, q_gvs, q_isI1, q_isA1, q_hs0, q_hsn, q_hsi, q_hsr, q_hss, q_inc1, List.set_cons_zero, List.set_cons_succ, ↓reduceIte, q_ss0, q_ssi, q_ssr, q_nr0, q_nr10, q_nr11, q_tlS, q_tlN, q_cl, q_let, q_lef, q_ltt, q_ltf, q_eqt, q_eqf, q_add, q_mul, Nat.reduceAdd, Nat.reduceLeDiff, Nat.reduceEqDiff, eq_self, Nat.zero_le, Nat.le_refl, not_false_eq_true, not_true_eq_false, true_and, and_true, and_self, if_true, if_false, p1.o, cl193 h193, c1]
    exact hQ
  have c1 : (nI k < nI 0) = False := q_ltf (by omega) hk
  simp only [c1, if_false] at hQ
  by_cases c2 : n ≤ k
  · have c3 : (nI n ≤ nI k) = True := q_let c2 hk
    simp only [hN, c3, if_true] at hQ
    simp (disch := first | assumption | omega) only [e201_0, e201_1, e201_2, e201_5, e201_8, e201_9, e201_12, e201_13, e201_14, e201_17, e201_18, q_gv0, q_gvs, q_isI1, q_isA1, q_hs0, q_hsn, q_hsi, q_hsr, q_hss, q_inc1, List.set_cons_zero, List.set_cons_succ, ↓reduceIte, q_ss0, q_ssi, q_ssr, q_nr0, q_nr10, q_nr11, q_tlS, q_tlN, q_cl, q_let, q_lef, q_ltt, q_ltf, q_eqt, q_eqf, q_add, q_mul, Nat.reduceAdd, Nat.reduceLeDiff, Nat.reduceEqDiff, eq_self, Nat.zero_le, Nat.le_refl, not_false_eq_true, not_true_eq_false, true_and, and_true, and_self, if_true, if_false, p1.o, cl193 h193, c1, hN, c3]
    exact hQ
  have c3 : (nI n ≤ nI k) = False := q_lef (by omega) (by omega)
  simp only [hN, c3, if_false, q_cl hk] at hQ
  simp (disch := first | assumption | omega) only [e201_0, e201_1, e201_2, e201_5, e201_8, e201_9, e201_12, e201_13, e201_14, e201_17, e201_18, q_gv0, q_gvs, q_isI1, q_isA1, q_hs0, q_hsn, q_hsi, q_hsr, q_hss, q_inc1, List.set_cons_zero, List.set_cons_succ, ↓reduceIte, q_ss0, q_ssi, q_ssr, q_nr0, q_nr10, q_nr11, q_tlS, q_tlN, q_cl, q_let, q_lef, q_ltt, q_ltf, q_eqt, q_eqf, q_add, q_mul, Nat.reduceAdd, Nat.reduceLeDiff, Nat.reduceEqDiff, eq_self, Nat.zero_le, Nat.le_refl, not_false_eq_true, not_true_eq_false, true_and, and_true, and_self, if_true, if_false, p1.o, p1.g8, p1.l5, cl193 h193, c1, hN, c3]
  exact hQ
def sp204 : mv_Sp := fun As sh M Q => ∃ (x : Int32), As = [.ref 0, .int x] ∧ ((oM sh) ∧ (∃ n, n ≤ 6 ∧ M 0 3 = nI n) ∧ (∃ n, n ≤ 6 ∧ M 0 14 = nI n)) ∧ Q (some (.int (if x < nI 0 then Int32.ofInt (-1) else if nI (10 ^ (M 0 3).toNatClampNeg) ≤ x then Int32.ofInt (-1) else if M 0 14 = nI 6 then Int32.ofInt (-3) else nI ((M 0 14).toNatClampNeg + 1)))) (sh) (if x < nI 0 then M else if nI (10 ^ (M 0 3).toNatClampNeg) ≤ x then M else if M 0 14 = nI 6 then M else mv_up (mv_up M 8 (M 0 14).toNatClampNeg x) 0 14 (nI ((M 0 14).toNatClampNeg + 1)))
theorem cl204 {S : Nat → mv_Sp} (hS : S 204 = sp204) {sh : mv_Shp} {M : mv_Mem} {x : Int32} (p1 : oM sh) (p2 : ∃ n, n ≤ 6 ∧ M 0 3 = nI n) (p3 : ∃ n, n ≤ 6 ∧ M 0 14 = nI n) {K : mv_Kt} {pc : Nat} {L : mv_Loc} {st : List Value} {cc_ ss_ : Nat} : mv_kal S 204 [.ref 0, .int x] sh M K pc L st cc_ ss_ = K pc L ((some (.int (if x < nI 0 then Int32.ofInt (-1) else if nI (10 ^ (M 0 3).toNatClampNeg) ≤ x then Int32.ofInt (-1) else if M 0 14 = nI 6 then Int32.ofInt (-3) else nI ((M 0 14).toNatClampNeg + 1))) : Option Value).toList ++ st) (sh) (if x < nI 0 then M else if nI (10 ^ (M 0 3).toNatClampNeg) ≤ x then M else if M 0 14 = nI 6 then M else mv_up (mv_up M 8 (M 0 14).toNatClampNeg x) 0 14 (nI ((M 0 14).toNatClampNeg + 1))) cc_ ss_ := by
  refine q_kal (fun F => q_cali (fun Q => ?_))
  rw [hS]
  constructor
  · rintro ⟨x', hE, ⟨zp1, zp2, zp3⟩, hQ⟩
    simp only [List.cons.injEq, Value.ref.injEq, Value.int.injEq, Value.long.injEq, and_true, true_and] at hE
    subst hE
    exact hQ
  · intro hQ
    exact ⟨x, rfl, ⟨p1, p2, p3⟩, hQ⟩
theorem ct204 {S : Nat → mv_Sp} (h167 : S 167 = sp167) : ∀ As sh M P, sp204 As sh M P → (mv_al0 As).length ≤ 2 ∧ mr204 S P 0 (mv_ent As 2) [] sh M 0 0 := by
  rintro As sh M P ⟨x, rfl, ⟨p1, p2, p3⟩, hQ⟩
  refine ⟨Nat.le_of_ble_eq_true rfl, ?_⟩
  show mr204 S P 0 [some (.ref 0), some (.int x)] [] sh M 0 0
  obtain ⟨n, hn, hN⟩ := id p3
  by_cases c1 : x < nI 0
  · rw [if_pos c1, if_pos c1] at hQ
    simp (disch := first | assumption | omega) only [e204_0, e204_1, e204_2, e204_5, e204_8, e204_9, e204_10, e204_11, e204_14, e204_16, e204_19, e204_21, e204_22, e204_23, e204_26, e204_27, e204_30, e204_31, e204_32, e204_33, e204_33r, e204_34, e204_37, e204_38, e204_39, e204_42, e204_43, e204_46, q_gv0, q_gvs, q_isI1, q_isA1, q_hs0, q_hsn, q_hsi, q_hsr, q_hss, q_inc1, List.set_cons_zero, List.set_cons_succ, ↓reduceIte, q_ss0, q_ssi, q_ssr, q_nr0, q_nr10, q_nr11, q_tlS, q_tlN, q_cl, q_let, q_lef, q_ltt, q_ltf, q_eqt, q_eqf, q_add, q_mul, Nat.reduceAdd, Nat.reduceLeDiff, Nat.reduceEqDiff, eq_self, Nat.zero_le, Nat.le_refl, not_false_eq_true, not_true_eq_false, true_and, and_true, and_self, if_true, if_false, p1.o, c1, cl167 h167]
    exact hQ
  rw [if_neg c1, if_neg c1] at hQ
  by_cases c2 : nI (10 ^ (M 0 3).toNatClampNeg) ≤ x
  · rw [if_pos c2, if_pos c2] at hQ
    simp (disch := first | assumption | omega) only [e204_0, e204_1, e204_2, e204_5, e204_8, e204_9, e204_10, e204_11, e204_14, e204_16, e204_19, e204_21, e204_22, e204_23, e204_26, e204_27, e204_30, e204_31, e204_32, e204_33, e204_33r, e204_34, e204_37, e204_38, e204_39, e204_42, e204_43, e204_46, q_gv0, q_gvs, q_isI1, q_isA1, q_hs0, q_hsn, q_hsi, q_hsr, q_hss, q_inc1, List.set_cons_zero, List.set_cons_succ, ↓reduceIte, q_ss0, q_ssi, q_ssr, q_nr0, q_nr10, q_nr11, q_tlS, q_tlN, q_cl, q_let, q_lef, q_ltt, q_ltf, q_eqt, q_eqf, q_add, q_mul, Nat.reduceAdd, Nat.reduceLeDiff, Nat.reduceEqDiff, eq_self, Nat.zero_le, Nat.le_refl, not_false_eq_true, not_true_eq_false, true_and, and_true, and_self, if_true, if_false, p1.o, c1, c2, cl167 h167]
    exact hQ
  rw [if_neg c2, if_neg c2] at hQ
  by_cases c3 : n = 6
  · subst c3
    rw [if_pos hN, if_pos hN] at hQ
    simp (disch := first | assumption | omega) only [e204_0, e204_1, e204_2, e204_5, e204_8, e204_9, e204_10, e204_11, e204_14, e204_16, e204_19, e204_21, e204_22, e204_23, e204_26, e204_27, e204_30, e204_31, e204_32, e204_33, e204_33r, e204_34, e204_37, e204_38, e204_39, e204_42, e204_43, e204_46, q_gv0, q_gvs, q_isI1, q_isA1, q_hs0, q_hsn, q_hsi, q_hsr, q_hss, q_inc1, List.set_cons_zero, List.set_cons_succ, ↓reduceIte, q_ss0, q_ssi, q_ssr, q_nr0, q_nr10, q_nr11, q_tlS, q_tlN, q_cl, q_let, q_lef, q_ltt, q_ltf, q_eqt, q_eqf, q_add, q_mul, Nat.reduceAdd, Nat.reduceLeDiff, Nat.reduceEqDiff, eq_self, Nat.zero_le, Nat.le_refl, not_false_eq_true, not_true_eq_false, true_and, and_true, and_self, if_true, if_false, p1.o, p1.g14, c1, c2, hN, cl167 h167]
    exact hQ
  have c4 : ¬ M 0 14 = nI 6 := fun z => c3 ((nI_eq (by omega) (by omega)).mp (hN.symm.trans z))
  rw [if_neg c4, if_neg c4, hN, q_cl (show n < 2147483648 by omega)] at hQ
  simp (disch := first | assumption | omega) only [e204_0, e204_1, e204_2, e204_5, e204_8, e204_9, e204_10, e204_11, e204_14, e204_16, e204_19, e204_21, e204_22, e204_23, e204_26, e204_27, e204_30, e204_31, e204_32, e204_33, e204_33r, e204_34, e204_37, e204_38, e204_39, e204_42, e204_43, e204_46, e204_33r, q_gv0, q_gvs, q_isI1, q_isA1, q_hs0, q_hsn, q_hsi, q_hsr, q_hss, q_inc1, List.set_cons_zero, List.set_cons_succ, ↓reduceIte, q_ss0, q_ssi, q_ssr, q_nr0, q_nr10, q_nr11, q_tlS, q_tlN, q_cl, q_let, q_lef, q_ltt, q_ltf, q_eqt, q_eqf, q_add, q_mul, Nat.reduceAdd, Nat.reduceLeDiff, Nat.reduceEqDiff, eq_self, Nat.zero_le, Nat.le_refl, not_false_eq_true, not_true_eq_false, true_and, and_true, and_self, if_true, if_false, p1.o, p1.g14, p1.g15, p1.p14, p1.s8, c1, c2, hN, cl167 h167, q_upO, q_upS]
  exact hQ
