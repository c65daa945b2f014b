/-! the letters' builder: no growth -/
def sp47 : mv_Sp := fun As sh M Q => As = [.ref 1] ∧ ((oX sh) ∧ (tX M)) ∧ Q (some (.int (nI 1))) (sh) (M)
theorem cl47 {S : Nat → mv_Sp} (hS : S 47 = sp47) {sh : mv_Shp} {M : mv_Mem}  (p1 : oX sh) (p2 : tX M) {K : mv_Kt} {pc : Nat} {L : mv_Loc} {st : List Value} {cc_ ss_ : Nat} : mv_kal S 47 [.ref 1] sh M K pc L st cc_ ss_ = K pc L ((some (.int (nI 1)) : Option Value).toList ++ st) (sh) (M) cc_ ss_ := by
  refine q_kal (fun F => q_cali (fun Q => ?_))
  rw [hS]
  constructor
  · rintro ⟨hE, ⟨zp1, zp2⟩, hQ⟩
    exact hQ
  · intro hQ
    exact ⟨rfl, ⟨p1, p2⟩, hQ⟩
theorem ct47 {S : Nat → mv_Sp}  : ∀ As sh M P, sp47 As sh M P → (mv_al0 As).length ≤ 1 ∧ mr47 S P 0 (mv_ent As 1) [] sh M 0 0 := by
  rintro As sh M P ⟨rfl, ⟨p1, p2⟩, hQ⟩
  refine ⟨Nat.le_of_ble_eq_true rfl, ?_⟩
  show mr47 S P 0 [some (.ref 1)] [] sh M 0 0
  have hc : M 1 1 = nI 0 := p2.2.1
  simp (disch := first | assumption | omega) only [e47_0, e47_3, e47_6, e47_7, e47_10, e47_13, e47_14, e47_17, e47_18, q_gv0, q_gvs, q_isI1, q_isA1, q_hs0, q_hsn, q_hsi, q_hsr, q_hss, q_inc1, List.set_cons_zero, List.set_cons_succ, ↓reduceIte, q_ss0, q_ssi, q_ssr, q_nr0, q_nr10, q_nr11, q_tlS, q_tlN, q_cl, q_let, q_lef, q_ltt, q_ltf, q_eqt, q_eqf, q_add, q_mul, Nat.reduceAdd, Nat.reduceLeDiff, Nat.reduceEqDiff, eq_self, Nat.zero_le, Nat.le_refl, not_false_eq_true, not_true_eq_false, true_and, and_true, and_self, if_true, if_false, p1.b1, hc]
  exact hQ
theorem le96 : ∀ k : Fin 97, nI k.1 - nI 96 ≤ nI 0 := by decide +kernel
theorem sh96 : nI 96 >>> (nI 0 &&& 31) = nI 96 := by decide +kernel
/-- room for n letters: there is, or it is made, once -/
def sp12 : mv_Sp := fun As sh M Q => (∃ n : Nat, As = [.ref 1, .int (nI n)] ∧ (oX sh ∧ tX M ∧ n < 97) ∧ Q none sh M) ∨
  (As = [.ref 1, .int (nI 96)] ∧ (oY sh ∧ M 1 1 = nI 0 ∧ ∀ i, i < 16 → M 2 i = nI 0) ∧ ∀ M', (∀ b, b < 61 → M' b = M b) → (∀ i, M' 61 i = nI 0) → Q none (gwS sh) M')
theorem oXY {sh : mv_Shp} (h : oX sh) (h2 : oY sh) : False := by
  have := h.2.1.symm.trans h2.1
  simp at this
theorem cl12 {S : Nat → mv_Sp} (hS : S 12 = sp12) {sh : mv_Shp} {M : mv_Mem} {n : Nat} (p1 : oX sh) (p2 : tX M) (p3 : n < 97) {K : mv_Kt} {pc : Nat} {L : mv_Loc} {st : List Value} {cc_ ss_ : Nat} : mv_kal S 12 [.ref 1, .int (nI n)] sh M K pc L st cc_ ss_ = K pc L ((none : Option Value).toList ++ st) sh M cc_ ss_ := by
  refine q_kal (fun F => q_cali (fun Q => ?_))
  rw [hS]
  constructor
  · rintro (⟨n', hE, z, hQ⟩ | ⟨hE, z, hQ⟩)
    · exact hQ
    · exact (oXY p1 z.1).elim
  · intro hQ
    exact Or.inl ⟨n, rfl, ⟨p1, p2, p3⟩, hQ⟩
theorem cg12 {S : Nat → mv_Sp} (hS : S 12 = sp12) {sh : mv_Shp} {M : mv_Mem} (p1 : oY sh) (p2 : M 1 1 = nI 0) (p3 : ∀ i, i < 16 → M 2 i = nI 0) {K : mv_Kt} {pc : Nat} {L : mv_Loc} {st : List Value} {c s : Nat}
    (h : ∀ M', (∀ b, b < 61 → M' b = M b) → (∀ i, M' 61 i = nI 0) → K pc L st (gwS sh) M' c s) : mv_kal S 12 [.ref 1, .int (nI 96)] sh M K pc L st c s := by
  refine kal_of ?_
  rw [hS]
  exact Or.inr ⟨rfl, ⟨p1, p2, p3⟩, h⟩
theorem ct12 {S : Nat → mv_Sp} (h10 : S 10 = sp10) (h11 : S 11 = sp11) : ∀ As sh M P, sp12 As sh M P → (mv_al0 As).length ≤ 3 ∧ mr12 S P 0 (mv_ent As 3) [] sh M 0 0 := by
  rintro As sh M P (⟨n, rfl, ⟨p1, p2, p3⟩, hQ⟩ | ⟨rfl, ⟨p1, p2, p3⟩, hQ⟩)
  · refine ⟨Nat.le_of_ble_eq_true rfl, ?_⟩
    show mr12 S P 0 [some (.ref 1), some (.int (nI n)), none] [] sh M 0 0
    have hc : M 1 1 = nI 0 := p2.2.1
    have h9 : (nI n - nI 96 ≤ nI 0) = True := eq_true (le96 ⟨n, p3⟩)
    simp (disch := first | assumption | omega) only [e12_0, e12_1, e12_4, e12_5, e12_6, e12_9, e12_10, e12_11, e12_12, e12_13, e12_14, e12_17, e12_18, e12_19, e12_22, e12_23, e12_24, e12_27, e12_28, e12_31, e12_32, e12_35, e12_38, q_gv0, q_gvs, q_isI1, q_isA1, q_hs0, q_hsn, q_hsi, q_hsr, q_hss, q_inc1, List.set_cons_zero, List.set_cons_succ, ↓reduceIte, q_ss0, q_ssi, q_ssr, q_nr0, q_nr10, q_nr11, q_tlS, q_tlN, q_cl, q_let, q_lef, q_ltt, q_ltf, q_eqt, q_eqf, q_add, q_mul, Nat.reduceAdd, Nat.reduceLeDiff, Nat.reduceEqDiff, eq_self, Nat.zero_le, Nat.le_refl, not_false_eq_true, not_true_eq_false, true_and, and_true, and_self, if_true, if_false, p1.b0, p1.b1, hc, p1.bn61, sh96, h9]
    exact hQ
  · refine ⟨Nat.le_of_ble_eq_true rfl, ?_⟩
    show mr12 S P 0 [some (.ref 1), some (.int (nI 96)), none] [] sh M 0 0
    have o1 := p1.o1
    simp (disch := first | assumption | omega) only [e12_0, e12_1, e12_4, e12_5, e12_6, e12_9, e12_10, e12_11, e12_12, e12_13, e12_14, e12_17, e12_18, e12_19, e12_22, e12_23, e12_24, e12_27, e12_28, e12_31, e12_32, e12_35, e12_38, q_gv0, q_gvs, q_isI1, q_isA1, q_hs0, q_hsn, q_hsi, q_hsr, q_hss, q_inc1, List.set_cons_zero, List.set_cons_succ, ↓reduceIte, q_ss0, q_ssi, q_ssr, q_nr0, q_nr10, q_nr11, q_tlS, q_tlN, q_cl, q_let, q_lef, q_ltt, q_ltf, q_eqt, q_eqf, q_add, q_mul, Nat.reduceAdd, Nat.reduceLeDiff, Nat.reduceEqDiff, eq_self, Nat.zero_le, Nat.le_refl, not_false_eq_true, not_true_eq_false, true_and, and_true, and_self, if_true, if_false, p1.b0, p1.b1, p2, q_kln p1.2.1 (by decide), q_shr0, q_sub, Nat.reduceSub, o1, cl10 h10, sl0.1, Nat.zero_add]
    refine kal_of ?_
    rw [h11]
    refine ⟨rfl, p1.2.1, p1.2.2, p3, fun M' m1 m2 => ?_⟩
    have g1 : (gwA sh)[1]? = some (.inr (.inl (6, [some (.ref 2), none, none, none]))) := (gwA_lo p1.2.2 (by decide)).trans p1.1
    have g2 : ∀ {K : mv_Kt} {pc : Nat} {L : mv_Loc} {st : List Value} {c s : Nat}, mv_kpr (gwA sh) M' 1 6 0 61 K pc L st c s = K pc L st (gwS sh) M' c s := by
      intro K pc L st c s
      unfold mv_kpr mv_pf
      rw [g1]
      simp [gwS]
    simp (disch := first | assumption | omega) only [e12_35, e12_38, q_gv0, q_gvs, q_isI1, q_isA1, q_hs0, q_hsn, q_hsi, q_hsr, q_hss, q_inc1, List.set_cons_zero, List.set_cons_succ, ↓reduceIte, q_ss0, q_ssi, q_ssr, q_nr0, q_nr10, q_nr11, q_tlS, q_tlN, q_cl, q_let, q_lef, q_ltt, q_ltf, q_eqt, q_eqf, q_add, q_mul, Nat.reduceAdd, Nat.reduceLeDiff, Nat.reduceEqDiff, eq_self, Nat.zero_le, Nat.le_refl, not_false_eq_true, not_true_eq_false, true_and, and_true, and_self, if_true, if_false, g2]
    exact hQ M' m1 m2
def sp48 : mv_Sp := fun As sh M Q => ∃ (n : Nat), As = [.ref 1, .int (nI n)] ∧ ((oX sh) ∧ (tX M) ∧ (∃ c, c < 97 ∧ n ≤ c ∧ M 1 3 = nI c)) ∧ Q (none) (sh) (if n < (M 1 3).toNatClampNeg then mv_up (mv_up M 1 2 (nI 1)) 1 3 (nI n) else mv_up M 1 3 (nI n))
theorem cl48 {S : Nat → mv_Sp} (hS : S 48 = sp48) {sh : mv_Shp} {M : mv_Mem} {n : Nat} (p1 : oX sh) (p2 : tX M) (p3 : ∃ c, c < 97 ∧ n ≤ c ∧ M 1 3 = nI c) {K : mv_Kt} {pc : Nat} {L : mv_Loc} {st : List Value} {cc_ ss_ : Nat} : mv_kal S 48 [.ref 1, .int (nI n)] sh M K pc L st cc_ ss_ = K pc L ((none : Option Value).toList ++ st) (sh) (if n < (M 1 3).toNatClampNeg then mv_up (mv_up M 1 2 (nI 1)) 1 3 (nI n) else mv_up M 1 3 (nI n)) cc_ ss_ := by
  refine q_kal (fun F => q_cali (fun Q => ?_))
  rw [hS]
  constructor
  · rintro ⟨n', hE, ⟨zp1, zp2, zp3⟩, hQ⟩
    simp only [List.cons.injEq, Value.ref.injEq, Value.int.injEq, Value.long.injEq, and_true, true_and] at hE
    have e_n := hE
    have z_n := nI_inj e_n (by omega) (by omega)
    subst z_n
    exact hQ
  · intro hQ
    exact ⟨n, rfl, ⟨p1, p2, p3⟩, hQ⟩
theorem ct48 {S : Nat → mv_Sp} (h12 : S 12 = sp12) (h47 : S 47 = sp47) : ∀ As sh M P, sp48 As sh M P → (mv_al0 As).length ≤ 2 ∧ mr48 S P 0 (mv_ent As 2) [] sh M 0 0 := by
  rintro As sh M P ⟨n, rfl, ⟨p1, p2, p3⟩, hQ⟩
  refine ⟨Nat.le_of_ble_eq_true rfl, ?_⟩
  show mr48 S P 0 [some (.ref 1), some (.int (nI n))] [] sh M 0 0
  obtain ⟨c, hc, hn, hC⟩ := id p3
  rw [hC, q_cl (show c < 2147483648 by omega)] at hQ
  have n97 : n < 97 := by omega
  have n0 : (nI 0 ≤ nI n) = True := q_let (by omega) (by omega)
  have nc : (nI n ≤ nI c) = True := q_let hn (by omega)
  by_cases c1 : n < c
  · rw [if_pos c1] at hQ
    have cn : (nI c ≤ nI n) = False := q_lef c1 (by omega)
    simp (disch := first | assumption | omega) only [e48_0, e48_1, e48_13, e48_14, e48_15, e48_18, e48_19, e48_22, e48_23, e48_26, e48_27, e48_30, e48_33, e48_34, e48_37, e48_38, e48_41, e48_48, e48_49, e48_52, e48_53, e48_56, e48_63, e48_64, e48_67, e48_68, e48_71, e48_72, e48_73, e48_76, e48_77, e48_78, e48_81, q_gv0, q_gvs, q_isI1, q_isA1, q_hs0, q_hsn, q_hsi, q_hsr, q_hss, q_inc1, List.set_cons_zero, List.set_cons_succ, ↓reduceIte, q_ss0, q_ssi, q_ssr, q_nr0, q_nr10, q_nr11, q_tlS, q_tlN, q_cl, q_let, q_lef, q_ltt, q_ltf, q_eqt, q_eqf, q_add, q_mul, Nat.reduceAdd, Nat.reduceLeDiff, Nat.reduceEqDiff, eq_self, Nat.zero_le, Nat.le_refl, not_false_eq_true, not_true_eq_false, true_and, and_true, and_self, if_true, if_false, p1.o1, p1.b3, p1.bp2, p1.bp3, hC, cl12 h12, n0, nc, cn, true_or, or_true]
    exact hQ
  · rw [if_neg c1] at hQ
    have cn : (nI c ≤ nI n) = True := q_let (by omega) (by omega)
    simp (disch := first | assumption | omega) only [e48_0, e48_1, e48_13, e48_14, e48_15, e48_18, e48_19, e48_22, e48_23, e48_26, e48_27, e48_30, e48_33, e48_34, e48_37, e48_38, e48_41, e48_48, e48_49, e48_52, e48_53, e48_56, e48_63, e48_64, e48_67, e48_68, e48_71, e48_72, e48_73, e48_76, e48_77, e48_78, e48_81, q_gv0, q_gvs, q_isI1, q_isA1, q_hs0, q_hsn, q_hsi, q_hsr, q_hss, q_inc1, List.set_cons_zero, List.set_cons_succ, ↓reduceIte, q_ss0, q_ssi, q_ssr, q_nr0, q_nr10, q_nr11, q_tlS, q_tlN, q_cl, q_let, q_lef, q_ltt, q_ltf, q_eqt, q_eqf, q_add, q_mul, Nat.reduceAdd, Nat.reduceLeDiff, Nat.reduceEqDiff, eq_self, Nat.zero_le, Nat.le_refl, not_false_eq_true, not_true_eq_false, true_and, and_true, and_self, if_true, if_false, p1.o1, p1.b3, p1.bp2, p1.bp3, hC, cl12 h12, n0, nc, cn]
    exact hQ
def sp49 : mv_Sp := fun As sh M Q => ∃ (n : Nat), As = [.ref 1, .int (nI n)] ∧ ((oX sh) ∧ (tX M) ∧ (∃ c, c < 97 ∧ n ≤ c ∧ M 1 3 = nI c)) ∧ Q (none) (sh) (if n < (M 1 3).toNatClampNeg then mv_up (mv_up M 1 2 (nI 1)) 1 3 (nI n) else mv_up M 1 3 (nI n))
theorem cl49 {S : Nat → mv_Sp} (hS : S 49 = sp49) {sh : mv_Shp} {M : mv_Mem} {n : Nat} (p1 : oX sh) (p2 : tX M) (p3 : ∃ c, c < 97 ∧ n ≤ c ∧ M 1 3 = nI c) {K : mv_Kt} {pc : Nat} {L : mv_Loc} {st : List Value} {cc_ ss_ : Nat} : mv_kal S 49 [.ref 1, .int (nI n)] sh M K pc L st cc_ ss_ = K pc L ((none : Option Value).toList ++ st) (sh) (if n < (M 1 3).toNatClampNeg then mv_up (mv_up M 1 2 (nI 1)) 1 3 (nI n) else mv_up M 1 3 (nI n)) cc_ ss_ := by
  refine q_kal (fun F => q_cali (fun Q => ?_))
  rw [hS]
  constructor
  · rintro ⟨n', hE, ⟨zp1, zp2, zp3⟩, hQ⟩
    simp only [List.cons.injEq, Value.ref.injEq, Value.int.injEq, Value.long.injEq, and_true, true_and] at hE
    have e_n := hE
    have z_n := nI_inj e_n (by omega) (by omega)
    subst z_n
    exact hQ
  · intro hQ
    exact ⟨n, rfl, ⟨p1, p2, p3⟩, hQ⟩
theorem ct49 {S : Nat → mv_Sp} (h48 : S 48 = sp48) : ∀ As sh M P, sp49 As sh M P → (mv_al0 As).length ≤ 2 ∧ mr49 S P 0 (mv_ent As 2) [] sh M 0 0 := by
  rintro As sh M P ⟨n, rfl, ⟨p1, p2, p3⟩, hQ⟩
  refine ⟨Nat.le_of_ble_eq_true rfl, ?_⟩
  show mr49 S P 0 [some (.ref 1), some (.int (nI n))] [] sh M 0 0
  simp (disch := first | assumption | omega) only [e49_0, e49_1, e49_2, e49_5, q_gv0, q_gvs, q_isI1, q_isA1, q_hs0, q_hsn, q_hsi, q_hsr, q_hss, q_inc1, List.set_cons_zero, List.set_cons_succ, ↓reduceIte, q_ss0, q_ssi, q_ssr, q_nr0, q_nr10, q_nr11, q_tlS, q_tlN, q_cl, q_let, q_lef, q_ltt, q_ltf, q_eqt, q_eqf, q_add, q_mul, Nat.reduceAdd, Nat.reduceLeDiff, Nat.reduceEqDiff, eq_self, Nat.zero_le, Nat.le_refl, not_false_eq_true, not_true_eq_false, true_and, and_true, and_self, if_true, if_false, p1.o1, cl48 h48]
  exact hQ
def sp139 : mv_Sp := fun As sh M Q => ∃ (x : Nat), As = [.int (nI x)] ∧ ((x < 256)) ∧ Q (some (.int (nI 1))) (sh) (M)
theorem cl139 {S : Nat → mv_Sp} (hS : S 139 = sp139) {sh : mv_Shp} {M : mv_Mem} {x : Nat} (p1 : x < 256) {K : mv_Kt} {pc : Nat} {L : mv_Loc} {st : List Value} {cc_ ss_ : Nat} : mv_kal S 139 [.int (nI x)] sh M K pc L st cc_ ss_ = K pc L ((some (.int (nI 1)) : Option Value).toList ++ st) (sh) (M) cc_ ss_ := by
  refine q_kal (fun F => q_cali (fun Q => ?_))
  rw [hS]
  constructor
  · rintro ⟨x', hE, zp1, hQ⟩
    simp only [List.cons.injEq, Value.ref.injEq, Value.int.injEq, Value.long.injEq, and_true, true_and] at hE
    have e_x := hE
    have z_x := nI_inj e_x (by omega) (by omega)
    subst z_x
    exact hQ
  · intro hQ
    exact ⟨x, rfl, p1, hQ⟩
theorem ct139 {S : Nat → mv_Sp}  : ∀ As sh M P, sp139 As sh M P → (mv_al0 As).length ≤ 1 ∧ mr139 S P 0 (mv_ent As 1) [] sh M 0 0 := by
  rintro As sh M P ⟨x, rfl, p1, hQ⟩
  refine ⟨Nat.le_of_ble_eq_true rfl, ?_⟩
  show mr139 S P 0 [some (.int (nI x))] [] sh M 0 0
  simp (disch := first | assumption | omega) only [e139_0, e139_1, e139_4, e139_7, e139_8, e139_11, e139_12, q_gv0, q_gvs, q_isI1, q_isA1, q_hs0, q_hsn, q_hsi, q_hsr, q_hss, q_inc1, List.set_cons_zero, List.set_cons_succ, ↓reduceIte, q_ss0, q_ssi, q_ssr, q_nr0, q_nr10, q_nr11, q_tlS, q_tlN, q_cl, q_let, q_lef, q_ltt, q_ltf, q_eqt, q_eqf, q_add, q_mul, Nat.reduceAdd, Nat.reduceLeDiff, Nat.reduceEqDiff, eq_self, Nat.zero_le, Nat.le_refl, not_false_eq_true, not_true_eq_false, true_and, and_true, and_self, if_true, if_false]
  exact hQ

theorem i8_id : ∀ k : Fin 128, (nI k.1).toInt8.toInt32 = nI k.1 := by decide +kernel
def sp140 : mv_Sp := fun As sh M Q => ∃ (x : Nat), As = [.ref 1, .int (nI x)] ∧ ((oX sh) ∧ (tX M) ∧ (x < 128) ∧ (∃ c, c < 96 ∧ M 1 3 = nI c)) ∧ Q (some (.ref 1)) (sh) (mv_up (mv_up M 1 3 (nI ((M 1 3).toNatClampNeg + 1))) 61 (M 1 3).toNatClampNeg (nI x))
theorem cl140 {S : Nat → mv_Sp} (hS : S 140 = sp140) {sh : mv_Shp} {M : mv_Mem} {x : Nat} (p1 : oX sh) (p2 : tX M) (p3 : x < 128) (p4 : ∃ c, c < 96 ∧ M 1 3 = nI c) {K : mv_Kt} {pc : Nat} {L : mv_Loc} {st : List Value} {cc_ ss_ : Nat} : mv_kal S 140 [.ref 1, .int (nI x)] sh M K pc L st cc_ ss_ = K pc L ((some (.ref 1) : Option Value).toList ++ st) (sh) (mv_up (mv_up M 1 3 (nI ((M 1 3).toNatClampNeg + 1))) 61 (M 1 3).toNatClampNeg (nI x)) cc_ ss_ := by
  refine q_kal (fun F => q_cali (fun Q => ?_))
  rw [hS]
  constructor
  · rintro ⟨x', hE, ⟨zp1, zp2, zp3, zp4⟩, hQ⟩
    simp only [List.cons.injEq, Value.ref.injEq, Value.int.injEq, Value.long.injEq, and_true, true_and] at hE
    have e_x := hE
    have z_x := nI_inj e_x (by omega) (by omega)
    subst z_x
    exact hQ
  · intro hQ
    exact ⟨x, rfl, ⟨p1, p2, p3, p4⟩, hQ⟩
theorem ct140 {S : Nat → mv_Sp} (h12 : S 12 = sp12) (h47 : S 47 = sp47) (h139 : S 139 = sp139) : ∀ As sh M P, sp140 As sh M P → (mv_al0 As).length ≤ 2 ∧ mr140 S P 0 (mv_ent As 2) [] sh M 0 0 := by
  rintro As sh M P ⟨x, rfl, ⟨p1, p2, p3, p4⟩, hQ⟩
  refine ⟨Nat.le_of_ble_eq_true rfl, ?_⟩
  show mr140 S P 0 [some (.ref 1), some (.int (nI x))] [] sh M 0 0
  obtain ⟨c, hc, hC⟩ := id p4
  rw [hC, q_cl (show c < 2147483648 by omega)] at hQ
  have hx := i8_id ⟨x, p3⟩
  have hx : (nI x).toInt8.toInt32 = nI x := hx
  have x256 : x < 256 := by omega
  simp (disch := first | assumption | omega) only [e140_0, e140_1, e140_2, e140_5, e140_6, e140_7, e140_10, e140_11, e140_14, e140_17, e140_18, e140_21, e140_24, e140_25, e140_28, e140_29, e140_29r, e140_30, e140_33, e140_33q, e140_33r, e140_33rq, e140_34, e140_35, e140_36, e140_39, e140_40, e140_41, e140_42, e140_45, e140_46, e140_49, e140_52, e140_56, e140_57, e140_60, e140_61, e140_61r, e140_62, e140_65, e140_65q, e140_65r, e140_65rq, e140_66, e140_67, e140_68, e140_71, e140_75, e140_76, q_gv0, q_gvs, q_isI1, q_isA1, q_hs0, q_hsn, q_hsi, q_hsr, q_hss, q_inc1, List.set_cons_zero, List.set_cons_succ, ↓reduceIte, q_ss0, q_ssi, q_ssr, q_nr0, q_nr10, q_nr11, q_tlS, q_tlN, q_cl, q_let, q_lef, q_ltt, q_ltf, q_eqt, q_eqf, q_add, q_mul, Nat.reduceAdd, Nat.reduceLeDiff, Nat.reduceEqDiff, eq_self, Nat.zero_le, Nat.le_refl, not_false_eq_true, not_true_eq_false, true_and, and_true, and_self, if_true, if_false, p1.o1, p1.b0, p1.b3, p1.bp3, hC, cl12 h12, cl47 h47, cl139 h139, hx, p1.bs61, e140_29r, e140_33q]
  exact hQ
def sp141 : mv_Sp := fun As sh M Q => ∃ (x : Nat), As = [.ref 1, .int (nI x)] ∧ ((oX sh) ∧ (tX M) ∧ (x < 128) ∧ (∃ c, c < 96 ∧ M 1 3 = nI c)) ∧ Q (some (.ref 1)) (sh) (mv_up (mv_up M 1 3 (nI ((M 1 3).toNatClampNeg + 1))) 61 (M 1 3).toNatClampNeg (nI x))
theorem cl141 {S : Nat → mv_Sp} (hS : S 141 = sp141) {sh : mv_Shp} {M : mv_Mem} {x : Nat} (p1 : oX sh) (p2 : tX M) (p3 : x < 128) (p4 : ∃ c, c < 96 ∧ M 1 3 = nI c) {K : mv_Kt} {pc : Nat} {L : mv_Loc} {st : List Value} {cc_ ss_ : Nat} : mv_kal S 141 [.ref 1, .int (nI x)] sh M K pc L st cc_ ss_ = K pc L ((some (.ref 1) : Option Value).toList ++ st) (sh) (mv_up (mv_up M 1 3 (nI ((M 1 3).toNatClampNeg + 1))) 61 (M 1 3).toNatClampNeg (nI x)) cc_ ss_ := by
  refine q_kal (fun F => q_cali (fun Q => ?_))
  rw [hS]
  constructor
  · rintro ⟨x', hE, ⟨zp1, zp2, zp3, zp4⟩, hQ⟩
    simp only [List.cons.injEq, Value.ref.injEq, Value.int.injEq, Value.long.injEq, and_true, true_and] at hE
    have e_x := hE
    have z_x := nI_inj e_x (by omega) (by omega)
    subst z_x
    exact hQ
  · intro hQ
    exact ⟨x, rfl, ⟨p1, p2, p3, p4⟩, hQ⟩
theorem ct141 {S : Nat → mv_Sp} (h140 : S 140 = sp140) : ∀ As sh M P, sp141 As sh M P → (mv_al0 As).length ≤ 2 ∧ mr141 S P 0 (mv_ent As 2) [] sh M 0 0 := by
  rintro As sh M P ⟨x, rfl, ⟨p1, p2, p3, p4⟩, hQ⟩
  refine ⟨Nat.le_of_ble_eq_true rfl, ?_⟩
  show mr141 S P 0 [some (.ref 1), some (.int (nI x))] [] sh M 0 0
  simp (disch := first | assumption | omega) only [e141_0, e141_1, e141_2, e141_5, e141_5r, e141_6, e141_7, q_gv0, q_gvs, q_isI1, q_isA1, q_hs0, q_hsn, q_hsi, q_hsr, q_hss, q_inc1, List.set_cons_zero, List.set_cons_succ, ↓reduceIte, q_ss0, q_ssi, q_ssr, q_nr0, q_nr10, q_nr11, q_tlS, q_tlN, q_cl, q_let, q_lef, q_ltt, q_ltf, q_eqt, q_eqf, q_add, q_mul, Nat.reduceAdd, Nat.reduceLeDiff, Nat.reduceEqDiff, eq_self, Nat.zero_le, Nat.le_refl, not_false_eq_true, not_true_eq_false, true_and, and_true, and_self, if_true, if_false, p1.o1, cl140 h140]
  exact hQ
