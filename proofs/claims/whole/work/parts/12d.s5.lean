/-! the text, read by letters -/
/-- the text's numbers: how long, Latin-1, letters below 128 -/
def tX (M : mv_Mem) : Prop := (∃ n, n ≤ 96 ∧ M 1 3 = nI n ∧ ∀ j, j < n → M 61 j ≠ nI 0) ∧ M 1 1 = nI 0 ∧ (∀ j, j < 96 → ∃ ch, ch < 128 ∧ M 61 j = nI ch)
def sp19 : mv_Sp := fun As sh M Q => As = [.ref 1] ∧ ((oX sh)) ∧ Q (some (.int (M 1 3))) (sh) (M)
theorem cl19 {S : Nat → mv_Sp} (hS : S 19 = sp19) {sh : mv_Shp} {M : mv_Mem}  (p1 : oX sh) {K : mv_Kt} {pc : Nat} {L : mv_Loc} {st : List Value} {cc_ ss_ : Nat} : mv_kal S 19 [.ref 1] sh M K pc L st cc_ ss_ = K pc L ((some (.int (M 1 3)) : Option Value).toList ++ st) (sh) (M) cc_ ss_ := by
  refine q_kal (fun F => q_cali (fun Q => ?_))
  rw [hS]
  constructor
  · rintro ⟨hE, zp1, hQ⟩
    exact hQ
  · intro hQ
    exact ⟨rfl, p1, hQ⟩
theorem ct19 {S : Nat → mv_Sp}  : ∀ As sh M P, sp19 As sh M P → (mv_al0 As).length ≤ 1 ∧ mr19 S P 0 (mv_ent As 1) [] sh M 0 0 := by
  rintro As sh M P ⟨rfl, p1, hQ⟩
  refine ⟨Nat.le_of_ble_eq_true rfl, ?_⟩
  show mr19 S P 0 [some (.ref 1)] [] sh M 0 0
  simp (disch := first | assumption | omega) only [e19_0, e19_1, e19_4, q_gv0, q_gvs, q_isI1, q_isA1, q_hs0, q_hsn, q_hsi, q_hsr, q_hss, q_inc1, List.set_cons_zero, List.set_cons_succ, ↓reduceIte, q_ss0, q_ssi, q_ssr, q_nr0, q_nr10, q_nr11, q_tlS, q_tlN, q_cl, q_let, q_lef, q_ltt, q_ltf, q_eqt, q_eqf, q_add, q_mul, Nat.reduceAdd, Nat.reduceLeDiff, Nat.reduceEqDiff, eq_self, Nat.zero_le, Nat.le_refl, not_false_eq_true, not_true_eq_false, true_and, and_true, and_self, if_true, if_false, p1.b3]
  exact hQ
def sp20 : mv_Sp := fun As sh M Q => As = [.ref 1] ∧ ((oX sh)) ∧ Q (some (.int (M 1 3))) (sh) (M)
theorem cl20 {S : Nat → mv_Sp} (hS : S 20 = sp20) {sh : mv_Shp} {M : mv_Mem}  (p1 : oX sh) {K : mv_Kt} {pc : Nat} {L : mv_Loc} {st : List Value} {cc_ ss_ : Nat} : mv_kal S 20 [.ref 1] sh M K pc L st cc_ ss_ = K pc L ((some (.int (M 1 3)) : Option Value).toList ++ st) (sh) (M) cc_ ss_ := by
  refine q_kal (fun F => q_cali (fun Q => ?_))
  rw [hS]
  constructor
  · rintro ⟨hE, zp1, hQ⟩
    exact hQ
  · intro hQ
    exact ⟨rfl, p1, hQ⟩
theorem ct20 {S : Nat → mv_Sp} (h19 : S 19 = sp19) : ∀ As sh M P, sp20 As sh M P → (mv_al0 As).length ≤ 1 ∧ mr20 S P 0 (mv_ent As 1) [] sh M 0 0 := by
  rintro As sh M P ⟨rfl, p1, hQ⟩
  refine ⟨Nat.le_of_ble_eq_true rfl, ?_⟩
  show mr20 S P 0 [some (.ref 1)] [] sh M 0 0
  simp (disch := first | assumption | omega) only [e20_0, e20_1, e20_4, q_gv0, q_gvs, q_isI1, q_isA1, q_hs0, q_hsn, q_hsi, q_hsr, q_hss, q_inc1, List.set_cons_zero, List.set_cons_succ, ↓reduceIte, q_ss0, q_ssi, q_ssr, q_nr0, q_nr10, q_nr11, q_tlS, q_tlN, q_cl, q_let, q_lef, q_ltt, q_ltf, q_eqt, q_eqf, q_add, q_mul, Nat.reduceAdd, Nat.reduceLeDiff, Nat.reduceEqDiff, eq_self, Nat.zero_le, Nat.le_refl, not_false_eq_true, not_true_eq_false, true_and, and_true, and_self, if_true, if_false, cl19 h19, p1.o1]
  exact hQ
def sp21 : mv_Sp := fun As sh M Q => ∃ (i : Nat) (l : Nat) (f : Value), As = [.int (nI i), .int (nI l), f] ∧ ((i < l) ∧ (l < 1000) ∧ (f = .null ∨ ∃ r, f = .ref r)) ∧ Q (some (.int (nI i))) (sh) (M)
theorem cl21 {S : Nat → mv_Sp} (hS : S 21 = sp21) {sh : mv_Shp} {M : mv_Mem} {i : Nat} {l : Nat} {f : Value} (p1 : i < l) (p2 : l < 1000) (p3 : f = .null ∨ ∃ r, f = .ref r) {K : mv_Kt} {pc : Nat} {L : mv_Loc} {st : List Value} {cc_ ss_ : Nat} : mv_kal S 21 [.int (nI i), .int (nI l), f] sh M K pc L st cc_ ss_ = K pc L ((some (.int (nI i)) : Option Value).toList ++ st) (sh) (M) cc_ ss_ := by
  refine q_kal (fun F => q_cali (fun Q => ?_))
  rw [hS]
  constructor
  · rintro ⟨i', l', f', hE, ⟨zp1, zp2, zp3⟩, hQ⟩
    simp only [List.cons.injEq, Value.ref.injEq, Value.int.injEq, Value.long.injEq, and_true, true_and] at hE
    obtain ⟨e_i, e_l, rfl⟩ := hE
    have z_i := nI_inj e_i (by omega) (by omega)
    subst z_i
    have z_l := nI_inj e_l (by omega) (by omega)
    subst z_l
    exact hQ
  · intro hQ
    exact ⟨i, l, f, rfl, ⟨p1, p2, p3⟩, hQ⟩
theorem ct21 {S : Nat → mv_Sp}  : ∀ As sh M P, sp21 As sh M P → (mv_al0 As).length ≤ 3 ∧ mr21 S P 0 (mv_ent As 3) [] sh M 0 0 := by
  rintro As sh M P ⟨i, l, f, rfl, ⟨p1, p2, p3⟩, hQ⟩
  have e0 : (mv_al0 [.int (nI i), .int (nI l), f]).length ≤ 3 ∧ mv_ent [.int (nI i), .int (nI l), f] 3 = [some (.int (nI i)), some (.int (nI l)), some f] := by
    rcases p3 with rfl | ⟨r, rfl⟩ <;> exact ⟨Nat.le_of_ble_eq_true rfl, rfl⟩
  refine ⟨e0.1, ?_⟩
  rw [e0.2]
  simp (disch := first | assumption | omega) only [e21_0, e21_1, e21_4, e21_5, e21_6, e21_9, e21_10, e21_11, e21_16, e21_17, q_gv0, q_gvs, q_isI1, q_isA1, q_hs0, q_hsn, q_hsi, q_hsr, q_hss, q_inc1, List.set_cons_zero, List.set_cons_succ, ↓reduceIte, q_ss0, q_ssi, q_ssr, q_nr0, q_nr10, q_nr11, q_tlS, q_tlN, q_cl, q_let, q_lef, q_ltt, q_ltf, q_eqt, q_eqf, q_add, q_mul, Nat.reduceAdd, Nat.reduceLeDiff, Nat.reduceEqDiff, eq_self, Nat.zero_le, Nat.le_refl, not_false_eq_true, not_true_eq_false, true_and, and_true, and_self, if_true, if_false]
  exact hQ
def sp22 : mv_Sp := fun As sh M Q => ∃ (i : Nat) (l : Nat), As = [.int (nI i), .int (nI l)] ∧ ((i < l) ∧ (l < 1000)) ∧ Q (none) (sh) (M)
theorem cl22 {S : Nat → mv_Sp} (hS : S 22 = sp22) {sh : mv_Shp} {M : mv_Mem} {i : Nat} {l : Nat} (p1 : i < l) (p2 : l < 1000) {K : mv_Kt} {pc : Nat} {L : mv_Loc} {st : List Value} {cc_ ss_ : Nat} : mv_kal S 22 [.int (nI i), .int (nI l)] sh M K pc L st cc_ ss_ = K pc L ((none : Option Value).toList ++ st) (sh) (M) cc_ ss_ := by
  refine q_kal (fun F => q_cali (fun Q => ?_))
  rw [hS]
  constructor
  · rintro ⟨i', l', hE, ⟨zp1, zp2⟩, hQ⟩
    simp only [List.cons.injEq, Value.ref.injEq, Value.int.injEq, Value.long.injEq, and_true, true_and] at hE
    obtain ⟨e_i, e_l⟩ := hE
    have z_i := nI_inj e_i (by omega) (by omega)
    subst z_i
    have z_l := nI_inj e_l (by omega) (by omega)
    subst z_l
    exact hQ
  · intro hQ
    exact ⟨i, l, rfl, ⟨p1, p2⟩, hQ⟩
theorem ct22 {S : Nat → mv_Sp} (h21 : S 21 = sp21) : ∀ As sh M P, sp22 As sh M P → (mv_al0 As).length ≤ 2 ∧ mr22 S P 0 (mv_ent As 2) [] sh M 0 0 := by
  rintro As sh M P ⟨i, l, rfl, ⟨p1, p2⟩, hQ⟩
  refine ⟨Nat.le_of_ble_eq_true rfl, ?_⟩
  show mr22 S P 0 [some (.int (nI i)), some (.int (nI l))] [] sh M 0 0
  have pn : (Value.null : Value) = .null ∨ ∃ r, (Value.null : Value) = .ref r := Or.inl rfl
  have pr : (Value.ref 2000 : Value) = .null ∨ ∃ r, (Value.ref 2000 : Value) = .ref r := Or.inr ⟨2000, rfl⟩
  simp (disch := first | assumption | omega) only [e22_0, e22_1, e22_2, e22_5, e22_8, e22_8r, e22_9, q_gv0, q_gvs, q_isI1, q_isA1, q_hs0, q_hsn, q_hsi, q_hsr, q_hss, q_inc1, List.set_cons_zero, List.set_cons_succ, ↓reduceIte, q_ss0, q_ssi, q_ssr, q_nr0, q_nr10, q_nr11, q_tlS, q_tlN, q_cl, q_let, q_lef, q_ltt, q_ltf, q_eqt, q_eqf, q_add, q_mul, Nat.reduceAdd, Nat.reduceLeDiff, Nat.reduceEqDiff, eq_self, Nat.zero_le, Nat.le_refl, not_false_eq_true, not_true_eq_false, true_and, and_true, and_self, if_true, if_false, cl21 h21]
  first
    | exact hQ
    | exact ⟨hQ, hQ⟩
theorem oX.bl61 {sh : mv_Shp} {M : mv_Mem} {K : mv_Kt} {pc : Nat} {L : mv_Loc} {st : List Value} {c s : Nat} (h : oX sh) {i : Nat} (hi : i < 96) : mv_kbl sh M 61 (nI i) K pc L st c s = K pc L (.int (M 61 i) :: st) sh M c s := by
  unfold mv_kbl mv_nums
  rw [h.2.2.1]
  simp only [q_in hi (by decide), q_cl (show i < 2147483648 by omega), true_and, true_or]
theorem oX.bs61 {sh : mv_Shp} {M : mv_Mem} {K : mv_Kt} {pc : Nat} {L : mv_Loc} {st : List Value} {c s : Nat} (h : oX sh) {i : Nat} {x : Int32} (hi : i < 96) (hx : x.toInt8.toInt32 = x) : mv_kbs sh M 61 (nI i) x K pc L st c s = K pc L st sh (mv_up M 61 i x) c s := by
  unfold mv_kbs mv_nums
  rw [h.2.2.1]
  simp only [q_in hi (by decide), q_cl (show i < 2147483648 by omega), true_and, true_or, hx]
theorem oX.bn61 {sh : mv_Shp} {M : mv_Mem} {K : mv_Kt} {pc : Nat} {L : mv_Loc} {st : List Value} {c s : Nat} (h : oX sh) : mv_kln sh M 61 K pc L st c s = K pc L (.int (nI 96) :: st) sh M c s := by
  unfold mv_kln mv_nums
  rw [h.2.2.1]
  simp
theorem q_shr0 {n : Nat} (h : n < 2147483648) : nI n >>> (nI 0 &&& 31) = nI n := sc_shr0 h
theorem q_chN {n : Nat} (h : n < 128) : q_ch (nI n &&& nI 255) = nI n := by
  have : ∀ n, n < 128 → q_ch (nI n &&& nI 255) = nI n := by decide +kernel
  exact this n h
theorem q_nr2 {n : Nat} (h : n < 128) : mv_nr 2 (nI n) = True := by
  have : ∀ n, n < 128 → vp_nar .char (nI n) = nI n := by decide +kernel
  exact eq_true (this n h)
def sp23 : mv_Sp := fun As sh M Q => ∃ (i : Nat), As = [.ref 1, .int (nI i)] ∧ ((oX sh) ∧ (tX M) ∧ (∃ n, n < 97 ∧ i < n ∧ M 1 3 = nI n) ∧ (i < 96)) ∧ Q (some (.int (M 61 i))) (sh) (M)
theorem cl23 {S : Nat → mv_Sp} (hS : S 23 = sp23) {sh : mv_Shp} {M : mv_Mem} {i : Nat} (p1 : oX sh) (p2 : tX M) (p3 : ∃ n, n < 97 ∧ i < n ∧ M 1 3 = nI n) (p4 : i < 96) {K : mv_Kt} {pc : Nat} {L : mv_Loc} {st : List Value} {cc_ ss_ : Nat} : mv_kal S 23 [.ref 1, .int (nI i)] sh M K pc L st cc_ ss_ = K pc L ((some (.int (M 61 i)) : Option Value).toList ++ st) (sh) (M) cc_ ss_ := by
  refine q_kal (fun F => q_cali (fun Q => ?_))
  rw [hS]
  constructor
  · rintro ⟨i', hE, ⟨zp1, zp2, zp3, zp4⟩, hQ⟩
    simp only [List.cons.injEq, Value.ref.injEq, Value.int.injEq, Value.long.injEq, and_true, true_and] at hE
    have e_i := hE
    have z_i := nI_inj e_i (by omega) (by omega)
    subst z_i
    exact hQ
  · intro hQ
    exact ⟨i, rfl, ⟨p1, p2, p3, p4⟩, hQ⟩
theorem ct23 {S : Nat → mv_Sp} (h22 : S 22 = sp22) : ∀ As sh M P, sp23 As sh M P → (mv_al0 As).length ≤ 5 ∧ mr23 S P 0 (mv_ent As 5) [] sh M 0 0 := by
  rintro As sh M P ⟨i, rfl, ⟨p1, p2, p3, p4⟩, hQ⟩
  refine ⟨Nat.le_of_ble_eq_true rfl, ?_⟩
  show mr23 S P 0 [some (.ref 1), some (.int (nI i)), none, none, none] [] sh M 0 0
  obtain ⟨n, hn, hi, hN⟩ := p3
  obtain ⟨ch, hc, hch⟩ := p2.2.2 i (by omega)
  have hcd := p2.2.1
  rw [hch] at hQ
  by_cases h96 : n = 96
  · subst h96
    simp (disch := first | assumption | omega) only [e23_0, e23_1, e23_4, e23_5, e23_6, e23_9, e23_10, e23_11, e23_14, e23_15, e23_16, e23_17, e23_18, e23_21, e23_23, e23_24, e23_26, e23_29, e23_30, e23_33, e23_34, e23_35, e23_36, e23_39, e23_40, e23_41, e23_42, e23_43, q_gv0, q_gvs, q_isI1, q_isA1, q_hs0, q_hsn, q_hsi, q_hsr, q_hss, q_inc1, List.set_cons_zero, List.set_cons_succ, ↓reduceIte, q_ss0, q_ssi, q_ssr, q_nr0, q_nr10, q_nr11, q_tlS, q_tlN, q_cl, q_let, q_lef, q_ltt, q_ltf, q_eqt, q_eqf, q_add, q_mul, Nat.reduceAdd, Nat.reduceLeDiff, Nat.reduceEqDiff, eq_self, Nat.zero_le, Nat.le_refl, not_false_eq_true, not_true_eq_false, true_and, and_true, and_self, if_true, if_false, p1.b0, p1.b1, p1.b3, hcd, hN, p1.bn61, q_shr0, cl22 h22, p1.bl61, hch, q_chN, q_nr2]
    exact hQ
  · simp (disch := first | assumption | omega) only [e23_0, e23_1, e23_4, e23_5, e23_6, e23_9, e23_10, e23_11, e23_14, e23_15, e23_16, e23_17, e23_18, e23_21, e23_23, e23_24, e23_26, e23_29, e23_30, e23_33, e23_34, e23_35, e23_36, e23_39, e23_40, e23_41, e23_42, e23_43, q_gv0, q_gvs, q_isI1, q_isA1, q_hs0, q_hsn, q_hsi, q_hsr, q_hss, q_inc1, List.set_cons_zero, List.set_cons_succ, ↓reduceIte, q_ss0, q_ssi, q_ssr, q_nr0, q_nr10, q_nr11, q_tlS, q_tlN, q_cl, q_let, q_lef, q_ltt, q_ltf, q_eqt, q_eqf, q_add, q_mul, Nat.reduceAdd, Nat.reduceLeDiff, Nat.reduceEqDiff, eq_self, Nat.zero_le, Nat.le_refl, not_false_eq_true, not_true_eq_false, true_and, and_true, and_self, if_true, if_false, p1.b0, p1.b1, p1.b3, hcd, hN, p1.bn61, q_shr0, cl22 h22, p1.bl61, hch, q_chN, q_nr2]
    exact hQ
def sp24 : mv_Sp := fun As sh M Q => ∃ (i : Nat), As = [.ref 1, .int (nI i)] ∧ ((oX sh) ∧ (tX M) ∧ (∃ n, n < 97 ∧ i < n ∧ M 1 3 = nI n) ∧ (i < 96)) ∧ Q (some (.int (M 61 i))) (sh) (M)
theorem cl24 {S : Nat → mv_Sp} (hS : S 24 = sp24) {sh : mv_Shp} {M : mv_Mem} {i : Nat} (p1 : oX sh) (p2 : tX M) (p3 : ∃ n, n < 97 ∧ i < n ∧ M 1 3 = nI n) (p4 : i < 96) {K : mv_Kt} {pc : Nat} {L : mv_Loc} {st : List Value} {cc_ ss_ : Nat} : mv_kal S 24 [.ref 1, .int (nI i)] sh M K pc L st cc_ ss_ = K pc L ((some (.int (M 61 i)) : Option Value).toList ++ st) (sh) (M) cc_ ss_ := by
  refine q_kal (fun F => q_cali (fun Q => ?_))
  rw [hS]
  constructor
  · rintro ⟨i', hE, ⟨zp1, zp2, zp3, zp4⟩, hQ⟩
    simp only [List.cons.injEq, Value.ref.injEq, Value.int.injEq, Value.long.injEq, and_true, true_and] at hE
    have e_i := hE
    have z_i := nI_inj e_i (by omega) (by omega)
    subst z_i
    exact hQ
  · intro hQ
    exact ⟨i, rfl, ⟨p1, p2, p3, p4⟩, hQ⟩
theorem ct24 {S : Nat → mv_Sp} (h23 : S 23 = sp23) : ∀ As sh M P, sp24 As sh M P → (mv_al0 As).length ≤ 2 ∧ mr24 S P 0 (mv_ent As 2) [] sh M 0 0 := by
  rintro As sh M P ⟨i, rfl, ⟨p1, p2, p3, p4⟩, hQ⟩
  refine ⟨Nat.le_of_ble_eq_true rfl, ?_⟩
  show mr24 S P 0 [some (.ref 1), some (.int (nI i))] [] sh M 0 0
  obtain ⟨n, hn, hi, hN⟩ := id p3
  obtain ⟨ch, hc, hch⟩ := p2.2.2 i (by omega)
  rw [hch] at hQ
  simp (disch := first | assumption | omega) only [e24_0, e24_1, e24_2, e24_5, q_gv0, q_gvs, q_isI1, q_isA1, q_hs0, q_hsn, q_hsi, q_hsr, q_hss, q_inc1, List.set_cons_zero, List.set_cons_succ, ↓reduceIte, q_ss0, q_ssi, q_ssr, q_nr0, q_nr10, q_nr11, q_tlS, q_tlN, q_cl, q_let, q_lef, q_ltt, q_ltf, q_eqt, q_eqf, q_add, q_mul, Nat.reduceAdd, Nat.reduceLeDiff, Nat.reduceEqDiff, eq_self, Nat.zero_le, Nat.le_refl, not_false_eq_true, not_true_eq_false, true_and, and_true, and_self, if_true, if_false, p1.o1, cl23 h23, hch, q_nr2]
  exact hQ
/-- the text's letters, 0 behind its end -/
def lx (M : mv_Mem) (p : Nat) : Nat := if p < (M 1 3).toNatClampNeg then (M 61 p).toNatClampNeg else 0
theorem lx_lt {M : mv_Mem} (h : tX M) (p : Nat) : lx M p < 128 := by
  unfold lx
  split
  · obtain ⟨n, hn, hN, -⟩ := h.1
    rename_i hh
    rw [hN, q_cl (show n < 2147483648 by omega)] at hh
    obtain ⟨ch, hc, hch⟩ := h.2.2 p (by omega)
    rw [hch, q_cl (show ch < 2147483648 by omega)]
    exact hc
  · decide
theorem lx_end {M : mv_Mem} (h : tX M) {p : Nat} (hp : lx M p ≠ 0) : p < 96 := by
  obtain ⟨n, hn, hN, -⟩ := h.1
  unfold lx at hp
  split at hp
  · rename_i hh
    rw [hN, q_cl (show n < 2147483648 by omega)] at hh
    omega
  · exact absurd rfl hp
theorem lx_iff {M : mv_Mem} (h : tX M) (p : Nat) : lx M p ≠ 0 ↔ p < (M 1 3).toNatClampNeg := by
  obtain ⟨n, hn, hN, hz⟩ := h.1
  unfold lx
  rw [hN, q_cl (show n < 2147483648 by omega)]
  constructor
  · intro hp
    split at hp
    · assumption
    · exact absurd rfl hp
  · intro hp
    rw [if_pos hp]
    obtain ⟨ch, hc, hch⟩ := h.2.2 p (by omega)
    have := hz p hp
    rw [hch] at this ⊢
    rw [q_cl (show ch < 2147483648 by omega)]
    intro z
    exact this (by rw [z])
theorem lx_up {M : mv_Mem} {a i : Nat} {x : Int32} (h : 1 < a) (h2 : a ≠ 61) : lx (mv_up M a i x) = lx M := by
  funext p
  unfold lx
  rw [q_upO (b := 1) (by omega), q_upO (b := 61) (by omega)]
theorem tX_up {M : mv_Mem} {a i : Nat} {x : Int32} (h : tX M) (h1 : 1 < a) (h2 : a ≠ 61) : tX (mv_up M a i x) := by
  unfold tX
  rw [q_upO (b := 1) (by omega), q_upO (b := 61) (by omega)]
  exact h
theorem pl_ex {M : mv_Mem} {q : Nat} (h : q < 201) : ∃ p, p < 201 ∧ mv_up M 10 2 (nI q) 10 2 = nI p := ⟨q, h, q_upS⟩
theorem q_upup {M : mv_Mem} {a i : Nat} {x y : Int32} : mv_up (mv_up M a i x) a i y = mv_up M a i y := by
  funext b j
  unfold mv_up upd
  split
  · simp only [if_true]
    split <;> rfl
  · rfl
theorem pl_up {M : mv_Mem} {a i : Nat} {x : Int32} (h : a ≠ 10) (hp : ∃ p, p < 201 ∧ M 10 2 = nI p) : ∃ p, p < 201 ∧ mv_up M a i x 10 2 = nI p := by
  rw [q_upO h.symm]; exact hp
def sp25 : mv_Sp := fun As sh M Q => As = [.ref 10] ∧ ((oX sh) ∧ (tX M) ∧ (∃ p, p < 201 ∧ M 10 2 = nI p)) ∧ Q (some (.int (nI (lx M (M 10 2).toNatClampNeg)))) (sh) (M)
theorem cl25 {S : Nat → mv_Sp} (hS : S 25 = sp25) {sh : mv_Shp} {M : mv_Mem}  (p1 : oX sh) (p2 : tX M) (p3 : ∃ p, p < 201 ∧ M 10 2 = nI p) {K : mv_Kt} {pc : Nat} {L : mv_Loc} {st : List Value} {cc_ ss_ : Nat} : mv_kal S 25 [.ref 10] sh M K pc L st cc_ ss_ = K pc L ((some (.int (nI (lx M (M 10 2).toNatClampNeg))) : Option Value).toList ++ st) (sh) (M) cc_ ss_ := by
  refine q_kal (fun F => q_cali (fun Q => ?_))
  rw [hS]
  constructor
  · rintro ⟨hE, ⟨zp1, zp2, zp3⟩, hQ⟩
    exact hQ
  · intro hQ
    exact ⟨rfl, ⟨p1, p2, p3⟩, hQ⟩
theorem ct25 {S : Nat → mv_Sp} (h20 : S 20 = sp20) (h24 : S 24 = sp24) : ∀ As sh M P, sp25 As sh M P → (mv_al0 As).length ≤ 1 ∧ mr25 S P 0 (mv_ent As 1) [] sh M 0 0 := by
  rintro As sh M P ⟨rfl, ⟨p1, p2, p3⟩, hQ⟩
  refine ⟨Nat.le_of_ble_eq_true rfl, ?_⟩
  show mr25 S P 0 [some (.ref 10)] [] sh M 0 0
  unfold lx at hQ
  obtain ⟨p, hp, hP⟩ := p3
  obtain ⟨n, hn, hN, -⟩ := p2.1
  rw [hP, hN, q_cl (show p < 2147483648 by omega), q_cl (show n < 2147483648 by omega)] at hQ
  by_cases h : p < n
  · obtain ⟨ch, hc, hch⟩ := p2.2.2 p (by omega)
    rw [if_pos h, hch, q_cl (show ch < 2147483648 by omega)] at hQ
    have hn2 : ∃ n, n < 97 ∧ p < n ∧ M 1 3 = nI n := ⟨n, by omega, h, hN⟩
    simp (disch := first | assumption | omega) only [e25_0, e25_1, e25_4, e25_5, e25_8, e25_11, e25_14, e25_15, e25_18, e25_19, e25_22, e25_25, e25_28, e25_29, q_gv0, q_gvs, q_isI1, q_isA1, q_hs0, q_hsn, q_hsi, q_hsr, q_hss, q_inc1, List.set_cons_zero, List.set_cons_succ, ↓reduceIte, q_ss0, q_ssi, q_ssr, q_nr0, q_nr10, q_nr11, q_tlS, q_tlN, q_cl, q_let, q_lef, q_ltt, q_ltf, q_eqt, q_eqf, q_add, q_mul, Nat.reduceAdd, Nat.reduceLeDiff, Nat.reduceEqDiff, eq_self, Nat.zero_le, Nat.le_refl, not_false_eq_true, not_true_eq_false, true_and, and_true, and_self, if_true, if_false, p1.r0, p1.r2, p1.o1, hP, cl20 h20, cl24 h24, hN, hch]
    exact hQ
  · rw [if_neg h] at hQ
    simp (disch := first | assumption | omega) only [e25_0, e25_1, e25_4, e25_5, e25_8, e25_11, e25_14, e25_15, e25_18, e25_19, e25_22, e25_25, e25_28, e25_29, q_gv0, q_gvs, q_isI1, q_isA1, q_hs0, q_hsn, q_hsi, q_hsr, q_hss, q_inc1, List.set_cons_zero, List.set_cons_succ, ↓reduceIte, q_ss0, q_ssi, q_ssr, q_nr0, q_nr10, q_nr11, q_tlS, q_tlN, q_cl, q_let, q_lef, q_ltt, q_ltf, q_eqt, q_eqf, q_add, q_mul, Nat.reduceAdd, Nat.reduceLeDiff, Nat.reduceEqDiff, eq_self, Nat.zero_le, Nat.le_refl, not_false_eq_true, not_true_eq_false, true_and, and_true, and_self, if_true, if_false, p1.r0, p1.r2, p1.o1, hP, cl20 h20, hN]
    exact hQ
theorem up_id {M : mv_Mem} {a i : Nat} {x : Int32} (h : M a i = x) : mv_up M a i x = M := by
  funext b j
  by_cases hb : b = a
  · subst hb
    by_cases hj : j = i
    · subst hj; rw [q_upS, h]
    · exact q_upN (fun z => hj z.2)
  · rw [q_upO hb]
/-- the place behind a letter -/
def nxF (T : Nat → Nat) (p : Nat) : Nat := if T p = 0 then p else p + 1
def sp26 : mv_Sp := fun As sh M Q => As = [.ref 10] ∧ ((oX sh) ∧ (tX M) ∧ (∃ p, p < 201 ∧ M 10 2 = nI p)) ∧ Q (some (.int (nI (lx M (M 10 2).toNatClampNeg)))) (sh) (mv_up M 10 2 (nI (nxF (lx M) (M 10 2).toNatClampNeg)))
theorem cl26 {S : Nat → mv_Sp} (hS : S 26 = sp26) {sh : mv_Shp} {M : mv_Mem}  (p1 : oX sh) (p2 : tX M) (p3 : ∃ p, p < 201 ∧ M 10 2 = nI p) {K : mv_Kt} {pc : Nat} {L : mv_Loc} {st : List Value} {cc_ ss_ : Nat} : mv_kal S 26 [.ref 10] sh M K pc L st cc_ ss_ = K pc L ((some (.int (nI (lx M (M 10 2).toNatClampNeg))) : Option Value).toList ++ st) (sh) (mv_up M 10 2 (nI (nxF (lx M) (M 10 2).toNatClampNeg))) cc_ ss_ := by
  refine q_kal (fun F => q_cali (fun Q => ?_))
  rw [hS]
  constructor
  · rintro ⟨hE, ⟨zp1, zp2, zp3⟩, hQ⟩
    exact hQ
  · intro hQ
    exact ⟨rfl, ⟨p1, p2, p3⟩, hQ⟩
theorem ct26 {S : Nat → mv_Sp} (h20 : S 20 = sp20) (h25 : S 25 = sp25) : ∀ As sh M P, sp26 As sh M P → (mv_al0 As).length ≤ 2 ∧ mr26 S P 0 (mv_ent As 2) [] sh M 0 0 := by
  rintro As sh M P ⟨rfl, ⟨p1, p2, p3⟩, hQ⟩
  refine ⟨Nat.le_of_ble_eq_true rfl, ?_⟩
  show mr26 S P 0 [some (.ref 10), none] [] sh M 0 0
  unfold nxF at hQ
  obtain ⟨p, hp, hP⟩ := id p3
  obtain ⟨n, hn, hN, -⟩ := p2.1
  have hi := lx_iff p2 p
  rw [hN, q_cl (show n < 2147483648 by omega)] at hi
  rw [hP, q_cl (show p < 2147483648 by omega)] at hQ
  by_cases h : p < n
  · rw [if_neg (hi.mpr h)] at hQ
    simp (disch := first | assumption | omega) only [e26_0, e26_1, e26_4, e26_5, e26_6, e26_9, e26_10, e26_13, e26_16, e26_19, e26_20, e26_20r, e26_21, e26_24, e26_25, e26_26, e26_29, e26_30, q_gv0, q_gvs, q_isI1, q_isA1, q_hs0, q_hsn, q_hsi, q_hsr, q_hss, q_inc1, List.set_cons_zero, List.set_cons_succ, ↓reduceIte, q_ss0, q_ssi, q_ssr, q_nr0, q_nr10, q_nr11, q_tlS, q_tlN, q_cl, q_let, q_lef, q_ltt, q_ltf, q_eqt, q_eqf, q_add, q_mul, Nat.reduceAdd, Nat.reduceLeDiff, Nat.reduceEqDiff, eq_self, Nat.zero_le, Nat.le_refl, not_false_eq_true, not_true_eq_false, true_and, and_true, and_self, if_true, if_false, p1.r0, p1.r2, p1.rp2, p1.o1, p1.o10, hP, cl20 h20, cl25 h25, hN]
    exact hQ
  · have h0 : lx M p = 0 := by
      by_cases z : lx M p = 0
      · exact z
      · exact absurd (hi.mp z) h
    rw [if_pos h0] at hQ
    rw [up_id hP] at hQ
    simp (disch := first | assumption | omega) only [e26_0, e26_1, e26_4, e26_5, e26_6, e26_9, e26_10, e26_13, e26_16, e26_19, e26_20, e26_20r, e26_21, e26_24, e26_25, e26_26, e26_29, e26_30, q_gv0, q_gvs, q_isI1, q_isA1, q_hs0, q_hsn, q_hsi, q_hsr, q_hss, q_inc1, List.set_cons_zero, List.set_cons_succ, ↓reduceIte, q_ss0, q_ssi, q_ssr, q_nr0, q_nr10, q_nr11, q_tlS, q_tlN, q_cl, q_let, q_lef, q_ltt, q_ltf, q_eqt, q_eqf, q_add, q_mul, Nat.reduceAdd, Nat.reduceLeDiff, Nat.reduceEqDiff, eq_self, Nat.zero_le, Nat.le_refl, not_false_eq_true, not_true_eq_false, true_and, and_true, and_self, if_true, if_false, p1.r0, p1.r2, p1.o1, p1.o10, hP, cl20 h20, cl25 h25, hN]
    exact hQ
/-- a figure at p: its value and 1, or 0 for none -/
def fgF (T : Nat → Nat) (p : Nat) : Nat := if 48 ≤ T p ∧ T p ≤ 57 then T p - 47 else 0
/-- the place behind it -/
def fgP (T : Nat → Nat) (p : Nat) : Nat := if fgF T p = 0 then p else p + 1
theorem fgF_le (T : Nat → Nat) (p : Nat) : fgF T p ≤ 10 := by
  unfold fgF
  split <;> omega
def sp27 : mv_Sp := fun As sh M Q => As = [.ref 10] ∧ ((oX sh) ∧ (tX M) ∧ (∃ p, p < 201 ∧ M 10 2 = nI p)) ∧ Q (some (.int (if fgF (lx M) (M 10 2).toNatClampNeg = 0 then Int32.ofInt (-1) else nI (fgF (lx M) (M 10 2).toNatClampNeg - 1)))) (sh) (mv_up M 10 2 (nI (fgP (lx M) (M 10 2).toNatClampNeg)))
theorem cl27 {S : Nat → mv_Sp} (hS : S 27 = sp27) {sh : mv_Shp} {M : mv_Mem}  (p1 : oX sh) (p2 : tX M) (p3 : ∃ p, p < 201 ∧ M 10 2 = nI p) {K : mv_Kt} {pc : Nat} {L : mv_Loc} {st : List Value} {cc_ ss_ : Nat} : mv_kal S 27 [.ref 10] sh M K pc L st cc_ ss_ = K pc L ((some (.int (if fgF (lx M) (M 10 2).toNatClampNeg = 0 then Int32.ofInt (-1) else nI (fgF (lx M) (M 10 2).toNatClampNeg - 1))) : Option Value).toList ++ st) (sh) (mv_up M 10 2 (nI (fgP (lx M) (M 10 2).toNatClampNeg))) cc_ ss_ := by
  refine q_kal (fun F => q_cali (fun Q => ?_))
  rw [hS]
  constructor
  · rintro ⟨hE, ⟨zp1, zp2, zp3⟩, hQ⟩
    exact hQ
  · intro hQ
    exact ⟨rfl, ⟨p1, p2, p3⟩, hQ⟩
theorem ct27 {S : Nat → mv_Sp} (h25 : S 25 = sp25) : ∀ As sh M P, sp27 As sh M P → (mv_al0 As).length ≤ 2 ∧ mr27 S P 0 (mv_ent As 2) [] sh M 0 0 := by
  rintro As sh M P ⟨rfl, ⟨p1, p2, p3⟩, hQ⟩
  refine ⟨Nat.le_of_ble_eq_true rfl, ?_⟩
  show mr27 S P 0 [some (.ref 10), none] [] sh M 0 0
  unfold fgP at hQ
  obtain ⟨p, hp, hP⟩ := id p3
  have hlt := lx_lt p2 p
  rw [hP, q_cl (show p < 2147483648 by omega)] at hQ
  by_cases h1 : lx M p < 48
  · have hf : fgF (lx M) p = 0 := by
      unfold fgF
      rw [if_neg (by omega)]
    rw [hf, if_pos rfl, if_pos rfl, up_id hP] at hQ
    simp (disch := first | assumption | omega) only [e27_0, e27_1, e27_4, e27_5, e27_6, e27_8, e27_11, e27_12, e27_14, e27_17, e27_18, e27_19, e27_20, e27_20r, e27_21, e27_24, e27_25, e27_26, e27_29, e27_30, e27_32, e27_33, q_gv0, q_gvs, q_isI1, q_isA1, q_hs0, q_hsn, q_hsi, q_hsr, q_hss, q_inc1, List.set_cons_zero, List.set_cons_succ, ↓reduceIte, q_ss0, q_ssi, q_ssr, q_nr0, q_nr10, q_nr11, q_tlS, q_tlN, q_cl, q_let, q_lef, q_ltt, q_ltf, q_eqt, q_eqf, q_add, q_mul, Nat.reduceAdd, Nat.reduceLeDiff, Nat.reduceEqDiff, eq_self, Nat.zero_le, Nat.le_refl, not_false_eq_true, not_true_eq_false, true_and, and_true, and_self, if_true, if_false, p1.o10, cl25 h25, hP]
    exact hQ
  · by_cases h2 : 57 < lx M p
    · have hf : fgF (lx M) p = 0 := by
        unfold fgF
        rw [if_neg (by omega)]
      rw [hf, if_pos rfl, if_pos rfl, up_id hP] at hQ
      simp (disch := first | assumption | omega) only [e27_0, e27_1, e27_4, e27_5, e27_6, e27_8, e27_11, e27_12, e27_14, e27_17, e27_18, e27_19, e27_20, e27_20r, e27_21, e27_24, e27_25, e27_26, e27_29, e27_30, e27_32, e27_33, q_gv0, q_gvs, q_isI1, q_isA1, q_hs0, q_hsn, q_hsi, q_hsr, q_hss, q_inc1, List.set_cons_zero, List.set_cons_succ, ↓reduceIte, q_ss0, q_ssi, q_ssr, q_nr0, q_nr10, q_nr11, q_tlS, q_tlN, q_cl, q_let, q_lef, q_ltt, q_ltf, q_eqt, q_eqf, q_add, q_mul, Nat.reduceAdd, Nat.reduceLeDiff, Nat.reduceEqDiff, eq_self, Nat.zero_le, Nat.le_refl, not_false_eq_true, not_true_eq_false, true_and, and_true, and_self, if_true, if_false, p1.o10, cl25 h25, hP]
      exact hQ
    · have h3 : 48 ≤ lx M p ∧ lx M p ≤ 57 := by omega
      have hf : fgF (lx M) p = lx M p - 47 := if_pos h3
      rw [hf, if_neg (by omega), if_neg (by omega)] at hQ
      simp (disch := first | assumption | omega) only [e27_0, e27_1, e27_4, e27_5, e27_6, e27_8, e27_11, e27_12, e27_14, e27_17, e27_18, e27_19, e27_20, e27_20r, e27_21, e27_24, e27_25, e27_26, e27_29, e27_30, e27_32, e27_33, q_gv0, q_gvs, q_isI1, q_isA1, q_hs0, q_hsn, q_hsi, q_hsr, q_hss, q_inc1, List.set_cons_zero, List.set_cons_succ, ↓reduceIte, q_ss0, q_ssi, q_ssr, q_nr0, q_nr10, q_nr11, q_tlS, q_tlN, q_cl, q_let, q_lef, q_ltt, q_ltf, q_eqt, q_eqf, q_add, q_mul, Nat.reduceAdd, Nat.reduceLeDiff, Nat.reduceEqDiff, eq_self, Nat.zero_le, Nat.le_refl, not_false_eq_true, not_true_eq_false, true_and, and_true, and_self, if_true, if_false, p1.r2, p1.rp2, p1.o10, hP, cl25 h25, q_sub]
      rw [show lx M p - 47 - 1 = lx M p - 48 by omega] at hQ
      exact hQ
/-- a number of one or two figures at p: its value and 1, 0 for none; the place behind it -/
def nbF (T : Nat → Nat) (p : Nat) : Nat := if fgF T p = 0 then 0 else if fgF T (p + 1) = 0 then fgF T p else (fgF T p - 1) * 10 + (fgF T (p + 1) - 1) + 1
def nbP (T : Nat → Nat) (p : Nat) : Nat := if fgF T p = 0 then p else if fgF T (p + 1) = 0 then p + 1 else p + 2
theorem nbF_le (T : Nat → Nat) (p : Nat) : nbF T p ≤ 100 := by
  have := fgF_le T p
  have := fgF_le T (p + 1)
  unfold nbF
  split
  · omega
  · split <;> omega
theorem fgF_end {M : mv_Mem} (h : tX M) {p : Nat} (hp : fgF (lx M) p ≠ 0) : p < 96 := by
  refine lx_end h (fun z => hp ?_)
  unfold fgF
  rw [z]; rfl
theorem q_m1 : (nI 0 ≤ Int32.ofInt (-1)) = False := by decide
theorem fgP0 {T : Nat → Nat} {p : Nat} (h : fgF T p = 0) : fgP T p = p := if_pos h
theorem fgP1 {T : Nat → Nat} {p : Nat} (h : ¬ fgF T p = 0) : fgP T p = p + 1 := if_neg h
def sp28 : mv_Sp := fun As sh M Q => As = [.ref 10] ∧ ((oX sh) ∧ (tX M) ∧ (∃ p, p < 201 ∧ M 10 2 = nI p)) ∧ Q (some (.int (if nbF (lx M) (M 10 2).toNatClampNeg = 0 then Int32.ofInt (-1) else nI (nbF (lx M) (M 10 2).toNatClampNeg - 1)))) (sh) (mv_up M 10 2 (nI (nbP (lx M) (M 10 2).toNatClampNeg)))
theorem cl28 {S : Nat → mv_Sp} (hS : S 28 = sp28) {sh : mv_Shp} {M : mv_Mem}  (p1 : oX sh) (p2 : tX M) (p3 : ∃ p, p < 201 ∧ M 10 2 = nI p) {K : mv_Kt} {pc : Nat} {L : mv_Loc} {st : List Value} {cc_ ss_ : Nat} : mv_kal S 28 [.ref 10] sh M K pc L st cc_ ss_ = K pc L ((some (.int (if nbF (lx M) (M 10 2).toNatClampNeg = 0 then Int32.ofInt (-1) else nI (nbF (lx M) (M 10 2).toNatClampNeg - 1))) : Option Value).toList ++ st) (sh) (mv_up M 10 2 (nI (nbP (lx M) (M 10 2).toNatClampNeg))) cc_ ss_ := by
  refine q_kal (fun F => q_cali (fun Q => ?_))
  rw [hS]
  constructor
  · rintro ⟨hE, ⟨zp1, zp2, zp3⟩, hQ⟩
    exact hQ
  · intro hQ
    exact ⟨rfl, ⟨p1, p2, p3⟩, hQ⟩
theorem ct28 {S : Nat → mv_Sp} (h27 : S 27 = sp27) : ∀ As sh M P, sp28 As sh M P → (mv_al0 As).length ≤ 3 ∧ mr28 S P 0 (mv_ent As 3) [] sh M 0 0 := by
  rintro As sh M P ⟨rfl, ⟨p1, p2, p3⟩, hQ⟩
  refine ⟨Nat.le_of_ble_eq_true rfl, ?_⟩
  show mr28 S P 0 [some (.ref 10), none, none] [] sh M 0 0
  obtain ⟨p, hp, hP⟩ := id p3
  rw [hP, q_cl (show p < 2147483648 by omega)] at hQ
  have f1 := fgF_le (lx M) p
  have f2 := fgF_le (lx M) (p + 1)
  by_cases h1 : fgF (lx M) p = 0
  · have e1 : nbF (lx M) p = 0 := if_pos h1
    have e2 : nbP (lx M) p = p := if_pos h1
    rw [e1, e2, if_pos rfl] at hQ
    simp (disch := first | assumption | omega) only [e28_0, e28_1, e28_4, e28_5, e28_6, e28_9, e28_10, e28_13, e28_14, e28_17, e28_18, e28_19, e28_22, e28_23, e28_26, e28_27, e28_29, e28_30, e28_31, e28_32, q_gv0, q_gvs, q_isI1, q_isA1, q_hs0, q_hsn, q_hsi, q_hsr, q_hss, q_inc1, List.set_cons_zero, List.set_cons_succ, ↓reduceIte, q_ss0, q_ssi, q_ssr, q_nr0, q_nr10, q_nr11, q_tlS, q_tlN, q_cl, q_let, q_lef, q_ltt, q_ltf, q_eqt, q_eqf, q_add, q_mul, Nat.reduceAdd, Nat.reduceLeDiff, Nat.reduceEqDiff, eq_self, Nat.zero_le, Nat.le_refl, not_false_eq_true, not_true_eq_false, true_and, and_true, and_self, if_true, if_false, p1.o10, cl27 h27, hP, h1, q_m1, fgP0]
    exact hQ
  · have h96 := fgF_end p2 h1
    have t2 : tX (mv_up M 10 2 (nI (p + 1))) := tX_up p2 (by decide) (by decide)
    have e3 : ∃ q, q < 201 ∧ mv_up M 10 2 (nI (p + 1)) 10 2 = nI q := pl_ex (by omega)
    by_cases h2 : fgF (lx M) (p + 1) = 0
    · have e1 : nbF (lx M) p = fgF (lx M) p := by unfold nbF; rw [if_neg h1, if_pos h2]
      have e2 : nbP (lx M) p = p + 1 := by unfold nbP; rw [if_neg h1, if_pos h2]
      rw [e1, e2, if_neg h1] at hQ
      simp (disch := first | assumption | omega) only [e28_0, e28_1, e28_4, e28_5, e28_6, e28_9, e28_10, e28_13, e28_14, e28_17, e28_18, e28_19, e28_22, e28_23, e28_26, e28_27, e28_29, e28_30, e28_31, e28_32, q_gv0, q_gvs, q_isI1, q_isA1, q_hs0, q_hsn, q_hsi, q_hsr, q_hss, q_inc1, List.set_cons_zero, List.set_cons_succ, ↓reduceIte, q_ss0, q_ssi, q_ssr, q_nr0, q_nr10, q_nr11, q_tlS, q_tlN, q_cl, q_let, q_lef, q_ltt, q_ltf, q_eqt, q_eqf, q_add, q_mul, Nat.reduceAdd, Nat.reduceLeDiff, Nat.reduceEqDiff, eq_self, Nat.zero_le, Nat.le_refl, not_false_eq_true, not_true_eq_false, true_and, and_true, and_self, if_true, if_false, p1.o10, cl27 h27, hP, h1, h2, q_m1, fgP0, fgP1, q_upS, q_upup, lx_up]
      exact hQ
    · have e1 : nbF (lx M) p = (fgF (lx M) p - 1) * 10 + (fgF (lx M) (p + 1) - 1) + 1 := by unfold nbF; rw [if_neg h1, if_neg h2]
      have e2 : nbP (lx M) p = p + 2 := by unfold nbP; rw [if_neg h1, if_neg h2]
      rw [e1, e2, if_neg (by omega)] at hQ
      simp (disch := first | assumption | omega) only [e28_0, e28_1, e28_4, e28_5, e28_6, e28_9, e28_10, e28_13, e28_14, e28_17, e28_18, e28_19, e28_22, e28_23, e28_26, e28_27, e28_29, e28_30, e28_31, e28_32, q_gv0, q_gvs, q_isI1, q_isA1, q_hs0, q_hsn, q_hsi, q_hsr, q_hss, q_inc1, List.set_cons_zero, List.set_cons_succ, ↓reduceIte, q_ss0, q_ssi, q_ssr, q_nr0, q_nr10, q_nr11, q_tlS, q_tlN, q_cl, q_let, q_lef, q_ltt, q_ltf, q_eqt, q_eqf, q_add, q_mul, Nat.reduceAdd, Nat.reduceLeDiff, Nat.reduceEqDiff, eq_self, Nat.zero_le, Nat.le_refl, not_false_eq_true, not_true_eq_false, true_and, and_true, and_self, if_true, if_false, p1.o10, cl27 h27, hP, h1, h2, q_m1, fgP0, fgP1, q_upS, q_upup, lx_up]
      exact hQ
