/-! amiss; the search's small ones -/
theorem shF_01 (g : Nat → Int32) : ∀ t v, shF g t v = 0 ∨ shF g t v = 1
  | 0, v => by unfold shF; split <;> simp
  | t + 1, v => by
    unfold shF
    split
    · exact shF_01 g t _
    · simp
def shB (M : mv_Mem) (a : Nat) (x : Int32) (v : Nat) : Nat := shF (fun t => M (a + 3) (t * 4 + (hlF x t).toNatClampNeg)) (M a 0).toNatClampNeg v
def adT (x y : Int32) : Int32 := ((x &&& nI 1365) + (y &&& nI 1365)) ^^^ ((x ^^^ y) &&& nI 2730)
theorem cr74 {S : Nat → mv_Sp} (h : S 74 = sp74) {sh : mv_Shp} {M : mv_Mem} {a v : Nat} {x : Int32} {K : mv_Kt} {pc : Nat} {L : mv_Loc} {st : List Value} {c s : Nat} (p1 : oL sh a) (p2 : ∃ n, n ≤ 6 ∧ M a 0 = nI n) (p3 : v < 2147483648) :
    mv_kal S 74 [.ref a, .int x, .int (nI v)] sh M K pc L st c s = K pc L ((some (.int (nI (shB M a x v)))).toList ++ st) sh M c s := cl74 h p1 p2 p3
theorem cr51 {S : Nat → mv_Sp} (h : S 51 = sp51) {sh : mv_Shp} {M : mv_Mem} {x y : Int32} {K : mv_Kt} {pc : Nat} {L : mv_Loc} {st : List Value} {c s : Nat} :
    mv_kal S 51 [.int x, .int y] sh M K pc L st c s = K pc L ((some (.int (adT x y))).toList ++ st) sh M c s := cl51 h trivial
def amG (M : mv_Mem) (x : Int32) (v t : Nat) (b : Int32) : Int32 := if shB M 3 (adT x (nI 1 <<< (nI (2 * t) &&& 31))) v = 1 then b ||| (nI 1 <<< (nI t &&& 31)) else b
def amH (M : mv_Mem) (x : Int32) (v t : Nat) (b : Int32) : Int32 := if shB M 3 (adT x (nI 3 <<< (nI (2 * t) &&& 31))) v = 1 then b ||| (nI 1 <<< (nI (t + 6) &&& 31)) else b
def amF (M : mv_Mem) (x : Int32) (v : Nat) : Nat → Int32
  | 0 => nI 0
  | t + 1 => amH M x v t (amG M x v t (amF M x v t))
theorem lp75 {S : Nat → mv_Sp} (h51 : S 51 = sp51) (h65 : S 65 = sp65) (h74 : S 74 = sp74) {sh : mv_Shp} {M : mv_Mem} {P : mv_Post} {nT v : Nat} {x : Int32} (p1 : oX sh) (hT : M 3 0 = nI nT) (hT6 : nT ≤ 6) (hv : v < 2147483648) (hQ : P (some (.int (amF M x v nT))) sh M) :
    ∀ n t, t + n = nT → mr75 S P 26 [some (.ref 0), some (.int (nI v)), some (.int x), some (.int (amF M x v t)), some (.int (nI t))] [] sh M 0 0
  | 0, t, h => by
    obtain rfl : t = nT := by omega
    have hl := p1.loom
    rw [e75_26]
    simp (disch := first | assumption | omega) only [e75_0, e75_1, e75_4, e75_5, e75_8, e75_11, e75_12, e75_13, e75_14, e75_17, e75_20, e75_21, e75_22, e75_23, e75_24, e75_28, e75_29, e75_32, e75_35, e75_38, e75_39, e75_42, e75_43, e75_45, e75_46, e75_49, e75_52, e75_53, e75_56, e75_59, e75_60, e75_61, e75_63, e75_64, e75_65, e75_66, e75_67, e75_70, e75_71, e75_73, e75_74, e75_77, e75_80, e75_81, e75_84, e75_87, e75_88, e75_89, e75_91, e75_93, e75_94, e75_95, e75_96, e75_97, e75_100, e75_103, e75_104, q_gv0, q_gvs, q_isI1, q_isA1, q_hs0, q_hsn, q_hsi, q_hsr, q_hss, q_inc1, List.set_cons_zero, List.set_cons_succ, ↓reduceIte, q_ss0, q_ssi, q_ssr, q_nr0, q_nr10, q_nr11, q_tlS, q_tlN, q_cl, q_let, q_lef, q_ltt, q_ltf, q_eqt, q_eqf, q_add, q_mul, Nat.reduceAdd, Nat.reduceLeDiff, Nat.reduceEqDiff, eq_self, Nat.zero_le, Nat.le_refl, not_false_eq_true, not_true_eq_false, true_and, and_true, and_self, if_true, if_false, p1.g1, hl.g0, hT]
    exact hQ
  | n + 1, t, h => by
    have hl := p1.loom
    have hn : ∃ n, n ≤ 6 ∧ M 3 0 = nI n := ⟨nT, hT6, hT⟩
    have ih := lp75 h51 h65 h74 p1 hT hT6 hv hQ n (t + 1) (by omega)
    have t6 : t < 6 := by omega
    unfold amF at ih
    generalize amF M x v t = b at ih ⊢
    unfold amG amH at ih
    rw [e75_26]
    have s1 : shB M 3 (adT x (nI 1 <<< (nI (2 * t) &&& 31))) v = 0 ∨ shB M 3 (adT x (nI 1 <<< (nI (2 * t) &&& 31))) v = 1 := shF_01 _ _ _
    have s2 : shB M 3 (adT x (nI 3 <<< (nI (2 * t) &&& 31))) v = 0 ∨ shB M 3 (adT x (nI 3 <<< (nI (2 * t) &&& 31))) v = 1 := shF_01 _ _ _
    have z : ¬ (0 : Nat) = 1 := by decide
    rcases s1 with s1 | s1
    · rcases s2 with s2 | s2
      · simp only [s1, s2, z, if_false] at ih
        simp (disch := first | assumption | omega) only [e75_0, e75_1, e75_4, e75_5, e75_8, e75_11, e75_12, e75_13, e75_14, e75_17, e75_20, e75_21, e75_22, e75_23, e75_24, e75_28, e75_29, e75_32, e75_35, e75_38, e75_39, e75_42, e75_43, e75_45, e75_46, e75_49, e75_52, e75_53, e75_56, e75_59, e75_60, e75_61, e75_63, e75_64, e75_65, e75_66, e75_67, e75_70, e75_71, e75_73, e75_74, e75_77, e75_80, e75_81, e75_84, e75_87, e75_88, e75_89, e75_91, e75_93, e75_94, e75_95, e75_96, e75_97, e75_100, e75_103, e75_104, q_gv0, q_gvs, q_isI1, q_isA1, q_hs0, q_hsn, q_hsi, q_hsr, q_hss, q_inc1, List.set_cons_zero, List.set_cons_succ, ↓reduceIte, q_ss0, q_ssi, q_ssr, q_nr0, q_nr10, q_nr11, q_tlS, q_tlN, q_cl, q_let, q_lef, q_ltt, q_ltf, q_eqt, q_eqf, q_add, q_mul, Nat.reduceAdd, Nat.reduceLeDiff, Nat.reduceEqDiff, eq_self, Nat.zero_le, Nat.le_refl, not_false_eq_true, not_true_eq_false, true_and, and_true, and_self, if_true, if_false, p1.g1, hl.g0, hl.o, hT, cr51 h51, cl65 h65, cr74 h74, s1, s2]
        exact ih
      · simp only [s1, s2, z, if_false, if_true] at ih
        simp (disch := first | assumption | omega) only [e75_0, e75_1, e75_4, e75_5, e75_8, e75_11, e75_12, e75_13, e75_14, e75_17, e75_20, e75_21, e75_22, e75_23, e75_24, e75_28, e75_29, e75_32, e75_35, e75_38, e75_39, e75_42, e75_43, e75_45, e75_46, e75_49, e75_52, e75_53, e75_56, e75_59, e75_60, e75_61, e75_63, e75_64, e75_65, e75_66, e75_67, e75_70, e75_71, e75_73, e75_74, e75_77, e75_80, e75_81, e75_84, e75_87, e75_88, e75_89, e75_91, e75_93, e75_94, e75_95, e75_96, e75_97, e75_100, e75_103, e75_104, q_gv0, q_gvs, q_isI1, q_isA1, q_hs0, q_hsn, q_hsi, q_hsr, q_hss, q_inc1, List.set_cons_zero, List.set_cons_succ, ↓reduceIte, q_ss0, q_ssi, q_ssr, q_nr0, q_nr10, q_nr11, q_tlS, q_tlN, q_cl, q_let, q_lef, q_ltt, q_ltf, q_eqt, q_eqf, q_add, q_mul, Nat.reduceAdd, Nat.reduceLeDiff, Nat.reduceEqDiff, eq_self, Nat.zero_le, Nat.le_refl, not_false_eq_true, not_true_eq_false, true_and, and_true, and_self, if_true, if_false, p1.g1, hl.g0, hl.o, hT, cr51 h51, cl65 h65, cr74 h74, s1, s2]
        exact ih
    · rcases s2 with s2 | s2
      · simp only [s1, s2, z, if_false, if_true] at ih
        simp (disch := first | assumption | omega) only [e75_0, e75_1, e75_4, e75_5, e75_8, e75_11, e75_12, e75_13, e75_14, e75_17, e75_20, e75_21, e75_22, e75_23, e75_24, e75_28, e75_29, e75_32, e75_35, e75_38, e75_39, e75_42, e75_43, e75_45, e75_46, e75_49, e75_52, e75_53, e75_56, e75_59, e75_60, e75_61, e75_63, e75_64, e75_65, e75_66, e75_67, e75_70, e75_71, e75_73, e75_74, e75_77, e75_80, e75_81, e75_84, e75_87, e75_88, e75_89, e75_91, e75_93, e75_94, e75_95, e75_96, e75_97, e75_100, e75_103, e75_104, q_gv0, q_gvs, q_isI1, q_isA1, q_hs0, q_hsn, q_hsi, q_hsr, q_hss, q_inc1, List.set_cons_zero, List.set_cons_succ, ↓reduceIte, q_ss0, q_ssi, q_ssr, q_nr0, q_nr10, q_nr11, q_tlS, q_tlN, q_cl, q_let, q_lef, q_ltt, q_ltf, q_eqt, q_eqf, q_add, q_mul, Nat.reduceAdd, Nat.reduceLeDiff, Nat.reduceEqDiff, eq_self, Nat.zero_le, Nat.le_refl, not_false_eq_true, not_true_eq_false, true_and, and_true, and_self, if_true, if_false, p1.g1, hl.g0, hl.o, hT, cr51 h51, cl65 h65, cr74 h74, s1, s2]
        exact ih
      · simp only [s1, s2, if_true] at ih
        simp (disch := first | assumption | omega) only [e75_0, e75_1, e75_4, e75_5, e75_8, e75_11, e75_12, e75_13, e75_14, e75_17, e75_20, e75_21, e75_22, e75_23, e75_24, e75_28, e75_29, e75_32, e75_35, e75_38, e75_39, e75_42, e75_43, e75_45, e75_46, e75_49, e75_52, e75_53, e75_56, e75_59, e75_60, e75_61, e75_63, e75_64, e75_65, e75_66, e75_67, e75_70, e75_71, e75_73, e75_74, e75_77, e75_80, e75_81, e75_84, e75_87, e75_88, e75_89, e75_91, e75_93, e75_94, e75_95, e75_96, e75_97, e75_100, e75_103, e75_104, q_gv0, q_gvs, q_isI1, q_isA1, q_hs0, q_hsn, q_hsi, q_hsr, q_hss, q_inc1, List.set_cons_zero, List.set_cons_succ, ↓reduceIte, q_ss0, q_ssi, q_ssr, q_nr0, q_nr10, q_nr11, q_tlS, q_tlN, q_cl, q_let, q_lef, q_ltt, q_ltf, q_eqt, q_eqf, q_add, q_mul, Nat.reduceAdd, Nat.reduceLeDiff, Nat.reduceEqDiff, eq_self, Nat.zero_le, Nat.le_refl, not_false_eq_true, not_true_eq_false, true_and, and_true, and_self, if_true, if_false, p1.g1, hl.g0, hl.o, hT, cr51 h51, cl65 h65, cr74 h74, s1, s2]
        exact ih
/-- the cloth's tops -/
def tpX (M : mv_Mem) (c : Nat) : Int32 := tpF (fun t => M (c + 1) (t * 5 + 0)) 6
theorem cr66 {S : Nat → mv_Sp} (h : S 66 = sp66) {sh : mv_Shp} {M : mv_Mem} {a : Nat} {K : mv_Kt} {pc : Nat} {L : mv_Loc} {st : List Value} {c s : Nat} (p1 : oC sh a) :
    mv_kal S 66 [.ref a] sh M K pc L st c s = K pc L ((some (.int (tpX M a))).toList ++ st) sh M c s := cl66 h p1
def sp75 : mv_Sp := fun As sh M Q => ∃ (x : Int32), As = [.ref 0, .int x] ∧ ((oX sh) ∧ (∃ n, n ≤ 6 ∧ M 3 0 = nI n)) ∧ Q (some (.int (if x < nI 0 then Int32.ofInt (-1) else if nI (10 ^ (M 3 0).toNatClampNeg) ≤ x then Int32.ofInt (-1) else amF M (tpX M 18) x.toNatClampNeg (M 3 0).toNatClampNeg))) (sh) (M)
theorem cl75 {S : Nat → mv_Sp} (hS : S 75 = sp75) {sh : mv_Shp} {M : mv_Mem} {x : Int32} (p1 : oX sh) (p2 : ∃ n, n ≤ 6 ∧ M 3 0 = nI n) {K : mv_Kt} {pc : Nat} {L : mv_Loc} {st : List Value} {cc_ ss_ : Nat} : mv_kal S 75 [.ref 0, .int x] sh M K pc L st cc_ ss_ = K pc L ((some (.int (if x < nI 0 then Int32.ofInt (-1) else if nI (10 ^ (M 3 0).toNatClampNeg) ≤ x then Int32.ofInt (-1) else amF M (tpX M 18) x.toNatClampNeg (M 3 0).toNatClampNeg)) : Option Value).toList ++ st) (sh) (M) cc_ ss_ := by
  refine q_kal (fun F => q_cali (fun Q => ?_))
  rw [hS]
  constructor
  · rintro ⟨x', hE, ⟨zp1, zp2⟩, hQ⟩
    simp only [List.cons.injEq, Value.ref.injEq, Value.int.injEq, Value.long.injEq, and_true, true_and] at hE
    subst hE
    exact hQ
  · intro hQ
    exact ⟨x, rfl, ⟨p1, p2⟩, hQ⟩
theorem ct75 {S : Nat → mv_Sp} (h51 : S 51 = sp51) (h65 : S 65 = sp65) (h66 : S 66 = sp66) (h73 : S 73 = sp73) (h74 : S 74 = sp74) : ∀ As sh M P, sp75 As sh M P → (mv_al0 As).length ≤ 5 ∧ mr75 S P 0 (mv_ent As 5) [] sh M 0 0 := by
  rintro As sh M P ⟨x, rfl, ⟨p1, p2⟩, hQ⟩
  refine ⟨Nat.le_of_ble_eq_true rfl, ?_⟩
  show mr75 S P 0 [some (.ref 0), some (.int x), none, none, none] [] sh M 0 0
  have hl := p1.loom
  have hc := p1.cloth
  obtain ⟨nT, h6, hT⟩ := id p2
  rcases i32_c x with c1 | ⟨k, hk, rfl⟩
  · simp only [c1, if_true] at hQ
    simp (disch := first | assumption | omega) only [e75_0, e75_1, e75_4, e75_5, e75_8, e75_11, e75_12, q_gv0, q_gvs, q_isI1, q_isA1, q_hs0, q_hsn, q_hsi, q_hsr, q_hss, q_inc1, List.set_cons_zero, List.set_cons_succ, ↓reduceIte, q_ss0, q_ssi, q_ssr, q_nr0, q_nr10, q_nr11, q_tlS, q_tlN, q_cl, q_let, q_lef, q_ltt, q_ltf, q_eqt, q_eqf, q_add, q_mul, Nat.reduceAdd, Nat.reduceLeDiff, Nat.reduceEqDiff, eq_self, Nat.zero_le, Nat.le_refl, not_false_eq_true, not_true_eq_false, true_and, and_true, and_self, if_true, if_false, p1.g1, hl.o, cl73 h73, c1]
    exact hQ
  have c1 : (nI k < nI 0) = False := q_ltf (by omega) hk
  simp only [c1, if_false] at hQ
  by_cases c2 : nI (10 ^ (M 3 0).toNatClampNeg) ≤ nI k
  · simp only [c2, if_true] at hQ
    simp (disch := first | assumption | omega) only [e75_0, e75_1, e75_4, e75_5, e75_8, e75_11, e75_12, q_gv0, q_gvs, q_isI1, q_isA1, q_hs0, q_hsn, q_hsi, q_hsr, q_hss, q_inc1, List.set_cons_zero, List.set_cons_succ, ↓reduceIte, q_ss0, q_ssi, q_ssr, q_nr0, q_nr10, q_nr11, q_tlS, q_tlN, q_cl, q_let, q_lef, q_ltt, q_ltf, q_eqt, q_eqf, q_add, q_mul, Nat.reduceAdd, Nat.reduceLeDiff, Nat.reduceEqDiff, eq_self, Nat.zero_le, Nat.le_refl, not_false_eq_true, not_true_eq_false, true_and, and_true, and_self, if_true, if_false, p1.g1, hl.o, cl73 h73, c1, c2]
    exact hQ
  simp only [c2, if_false] at hQ
  rw [hT, q_cl (show nT < 2147483648 by omega), q_cl hk] at hQ
  simp (disch := first | assumption | omega) only [e75_0, e75_1, e75_4, e75_5, e75_8, e75_13, e75_14, e75_17, e75_20, e75_21, e75_22, e75_23, e75_24, q_gv0, q_gvs, q_isI1, q_isA1, q_hs0, q_hsn, q_hsi, q_hsr, q_hss, q_inc1, List.set_cons_zero, List.set_cons_succ, ↓reduceIte, q_ss0, q_ssi, q_ssr, q_nr0, q_nr10, q_nr11, q_tlS, q_tlN, q_cl, q_let, q_lef, q_ltt, q_ltf, q_eqt, q_eqf, q_add, q_mul, Nat.reduceAdd, Nat.reduceLeDiff, Nat.reduceEqDiff, eq_self, Nat.zero_le, Nat.le_refl, not_false_eq_true, not_true_eq_false, true_and, and_true, and_self, if_true, if_false, p1.g1, p1.g3, hl.o, hc.o, cl73 h73, cr66 h66, c1, c2]
  exact lp75 h51 h65 h74 p1 hT h6 hk hQ nT 0 (by omega)
def sp85 : mv_Sp := fun As sh M Q => ∃ (a : Nat) (x : Nat), As = [.ref a, .int (nI x)] ∧ ((oS sh a) ∧ (x < 4096)) ∧ Q (some (.int (M (a + 2) x))) (sh) (M)
theorem cl85 {S : Nat → mv_Sp} (hS : S 85 = sp85) {sh : mv_Shp} {M : mv_Mem} {a : Nat} {x : Nat} (p1 : oS sh a) (p2 : x < 4096) {K : mv_Kt} {pc : Nat} {L : mv_Loc} {st : List Value} {cc_ ss_ : Nat} : mv_kal S 85 [.ref a, .int (nI x)] sh M K pc L st cc_ ss_ = K pc L ((some (.int (M (a + 2) x)) : Option Value).toList ++ st) (sh) (M) cc_ ss_ := by
  refine q_kal (fun F => q_cali (fun Q => ?_))
  rw [hS]
  constructor
  · rintro ⟨a', x', hE, ⟨zp1, zp2⟩, hQ⟩
    simp only [List.cons.injEq, Value.ref.injEq, Value.int.injEq, Value.long.injEq, and_true, true_and] at hE
    obtain ⟨rfl, e_x⟩ := hE
    have z_x := nI_inj e_x (by omega) (by omega)
    subst z_x
    exact hQ
  · intro hQ
    exact ⟨a, x, rfl, ⟨p1, p2⟩, hQ⟩
theorem ct85 {S : Nat → mv_Sp}  : ∀ As sh M P, sp85 As sh M P → (mv_al0 As).length ≤ 2 ∧ mr85 S P 0 (mv_ent As 2) [] sh M 0 0 := by
  rintro As sh M P ⟨a, x, rfl, ⟨p1, p2⟩, hQ⟩
  refine ⟨Nat.le_of_ble_eq_true rfl, ?_⟩
  show mr85 S P 0 [some (.ref a), some (.int (nI x))] [] sh M 0 0
  simp (disch := first | assumption | omega) only [e85_0, e85_1, e85_4, e85_5, e85_8, e85_11, e85_12, e85_15, e85_16, e85_17, e85_20, e85_21, q_gv0, q_gvs, q_isI1, q_isA1, q_hs0, q_hsn, q_hsi, q_hsr, q_hss, q_inc1, List.set_cons_zero, List.set_cons_succ, ↓reduceIte, q_ss0, q_ssi, q_ssr, q_nr0, q_nr10, q_nr11, q_tlS, q_tlN, q_cl, q_let, q_lef, q_ltt, q_ltf, q_eqt, q_eqf, q_add, q_mul, Nat.reduceAdd, Nat.reduceLeDiff, Nat.reduceEqDiff, eq_self, Nat.zero_le, Nat.le_refl, not_false_eq_true, not_true_eq_false, true_and, and_true, and_self, if_true, if_false, p1.g1, p1.l2]
  exact hQ
def sp84 : mv_Sp := fun As sh M Q => ∃ (a : Nat) (x : Int32) (j : Nat), As = [.ref a, .int x, .int (nI j)] ∧ ((oS sh a) ∧ (j < 12)) ∧ Q (some (.int (adT x (M (a + 3) j)))) (sh) (M)
theorem cl84 {S : Nat → mv_Sp} (hS : S 84 = sp84) {sh : mv_Shp} {M : mv_Mem} {a : Nat} {x : Int32} {j : Nat} (p1 : oS sh a) (p2 : j < 12) {K : mv_Kt} {pc : Nat} {L : mv_Loc} {st : List Value} {cc_ ss_ : Nat} : mv_kal S 84 [.ref a, .int x, .int (nI j)] sh M K pc L st cc_ ss_ = K pc L ((some (.int (adT x (M (a + 3) j))) : Option Value).toList ++ st) (sh) (M) cc_ ss_ := by
  refine q_kal (fun F => q_cali (fun Q => ?_))
  rw [hS]
  constructor
  · rintro ⟨a', x', j', hE, ⟨zp1, zp2⟩, hQ⟩
    simp only [List.cons.injEq, Value.ref.injEq, Value.int.injEq, Value.long.injEq, and_true, true_and] at hE
    obtain ⟨rfl, rfl, e_j⟩ := hE
    have z_j := nI_inj e_j (by omega) (by omega)
    subst z_j
    exact hQ
  · intro hQ
    exact ⟨a, x, j, rfl, ⟨p1, p2⟩, hQ⟩
theorem ct84 {S : Nat → mv_Sp} (h51 : S 51 = sp51) : ∀ As sh M P, sp84 As sh M P → (mv_al0 As).length ≤ 3 ∧ mr84 S P 0 (mv_ent As 3) [] sh M 0 0 := by
  rintro As sh M P ⟨a, x, j, rfl, ⟨p1, p2⟩, hQ⟩
  refine ⟨Nat.le_of_ble_eq_true rfl, ?_⟩
  show mr84 S P 0 [some (.ref a), some (.int x), some (.int (nI j))] [] sh M 0 0
  simp (disch := first | assumption | omega) only [e84_0, e84_1, e84_4, e84_5, e84_7, e84_10, e84_11, e84_12, e84_15, e84_16, e84_17, e84_20, e84_23, e84_24, q_gv0, q_gvs, q_isI1, q_isA1, q_hs0, q_hsn, q_hsi, q_hsr, q_hss, q_inc1, List.set_cons_zero, List.set_cons_succ, ↓reduceIte, q_ss0, q_ssi, q_ssr, q_nr0, q_nr10, q_nr11, q_tlS, q_tlN, q_cl, q_let, q_lef, q_ltt, q_ltf, q_eqt, q_eqf, q_add, q_mul, Nat.reduceAdd, Nat.reduceLeDiff, Nat.reduceEqDiff, eq_self, Nat.zero_le, Nat.le_refl, not_false_eq_true, not_true_eq_false, true_and, and_true, and_self, if_true, if_false, p1.g2, p1.l3, cr51 h51]
  exact hQ
/-- a number put on the list, if it bears no mark -/
def enM (M : mv_Mem) (a x : Nat) (v : Int32) : mv_Mem := if M (a + 2) x = nI 0 then if (M a 3).toNatClampNeg = 4096 then M else mv_up (mv_up (mv_up M (a + 2) x v) (a + 1) (M a 3).toNatClampNeg (nI x)) a 3 (nI ((M a 3).toNatClampNeg + 1)) else M
def sp82 : mv_Sp := fun As sh M Q => ∃ (a : Nat) (x : Nat) (v : Int32), As = [.ref a, .int (nI x), .int v] ∧ ((oS sh a) ∧ (x < 4096) ∧ (∃ l, l < 4097 ∧ M a 3 = nI l)) ∧ Q (none) (sh) (enM M a x v)
theorem cl82 {S : Nat → mv_Sp} (hS : S 82 = sp82) {sh : mv_Shp} {M : mv_Mem} {a : Nat} {x : Nat} {v : Int32} (p1 : oS sh a) (p2 : x < 4096) (p3 : ∃ l, l < 4097 ∧ M a 3 = nI l) {K : mv_Kt} {pc : Nat} {L : mv_Loc} {st : List Value} {cc_ ss_ : Nat} : mv_kal S 82 [.ref a, .int (nI x), .int v] sh M K pc L st cc_ ss_ = K pc L ((none : Option Value).toList ++ st) (sh) (enM M a x v) cc_ ss_ := by
  refine q_kal (fun F => q_cali (fun Q => ?_))
  rw [hS]
  constructor
  · rintro ⟨a', x', v', hE, ⟨zp1, zp2, zp3⟩, hQ⟩
    simp only [List.cons.injEq, Value.ref.injEq, Value.int.injEq, Value.long.injEq, and_true, true_and] at hE
    obtain ⟨rfl, e_x, rfl⟩ := hE
    have z_x := nI_inj e_x (by omega) (by omega)
    subst z_x
    exact hQ
  · intro hQ
    exact ⟨a, x, v, rfl, ⟨p1, p2, p3⟩, hQ⟩
theorem ct82 {S : Nat → mv_Sp}  : ∀ As sh M P, sp82 As sh M P → (mv_al0 As).length ≤ 3 ∧ mr82 S P 0 (mv_ent As 3) [] sh M 0 0 := by
  rintro As sh M P ⟨a, x, v, rfl, ⟨p1, p2, p3⟩, hQ⟩
  refine ⟨Nat.le_of_ble_eq_true rfl, ?_⟩
  show mr82 S P 0 [some (.ref a), some (.int (nI x)), some (.int v)] [] sh M 0 0
  obtain ⟨l, hl, hL⟩ := id p3
  unfold enM at hQ
  by_cases c1 : M (a + 2) x = nI 0
  · rw [if_pos c1, hL, q_cl (by omega)] at hQ
    by_cases c2 : l = 4096
    · rw [if_pos c2] at hQ
      subst c2
      simp (disch := first | assumption | omega) only [e82_0, e82_1, e82_4, e82_5, e82_8, e82_11, e82_12, e82_15, e82_16, e82_17, e82_20, e82_21, e82_24, e82_27, e82_30, e82_31, e82_34, e82_35, e82_36, e82_37, e82_38, e82_41, e82_42, e82_45, e82_46, e82_47, e82_48, e82_48r, e82_49, e82_52, e82_53, e82_54, e82_57, q_gv0, q_gvs, q_isI1, q_isA1, q_hs0, q_hsn, q_hsi, q_hsr, q_hss, q_inc1, List.set_cons_zero, List.set_cons_succ, ↓reduceIte, q_ss0, q_ssi, q_ssr, q_nr0, q_nr10, q_nr11, q_tlS, q_tlN, q_cl, q_let, q_lef, q_ltt, q_ltf, q_eqt, q_eqf, q_add, q_mul, Nat.reduceAdd, Nat.reduceLeDiff, Nat.reduceEqDiff, eq_self, Nat.zero_le, Nat.le_refl, not_false_eq_true, not_true_eq_false, true_and, and_true, and_self, if_true, if_false, p1.g1, p1.l2, p1.g3, c1, hL]
      exact hQ
    · rw [if_neg c2] at hQ
      simp (disch := first | assumption | omega) only [e82_0, e82_1, e82_4, e82_5, e82_8, e82_11, e82_12, e82_15, e82_16, e82_17, e82_20, e82_21, e82_24, e82_27, e82_30, e82_31, e82_34, e82_35, e82_36, e82_37, e82_38, e82_41, e82_42, e82_45, e82_46, e82_47, e82_48, e82_48r, e82_49, e82_52, e82_53, e82_54, e82_57, q_gv0, q_gvs, q_isI1, q_isA1, q_hs0, q_hsn, q_hsi, q_hsr, q_hss, q_inc1, List.set_cons_zero, List.set_cons_succ, ↓reduceIte, q_ss0, q_ssi, q_ssr, q_nr0, q_nr10, q_nr11, q_tlS, q_tlN, q_cl, q_let, q_lef, q_ltt, q_ltf, q_eqt, q_eqf, q_add, q_mul, Nat.reduceAdd, Nat.reduceLeDiff, Nat.reduceEqDiff, eq_self, Nat.zero_le, Nat.le_refl, not_false_eq_true, not_true_eq_false, true_and, and_true, and_self, if_true, if_false, e82_48r, p1.g0, p1.l2, p1.s1, p1.g1, p1.s2, p1.g3, p1.p3, c1, hL, q_upO]
      exact hQ
  · rw [if_neg c1] at hQ
    simp (disch := first | assumption | omega) only [e82_0, e82_1, e82_4, e82_5, e82_8, e82_11, e82_12, e82_15, e82_16, e82_17, e82_20, e82_21, e82_24, e82_27, e82_30, e82_31, e82_34, e82_35, e82_36, e82_37, e82_38, e82_41, e82_42, e82_45, e82_46, e82_47, e82_48, e82_48r, e82_49, e82_52, e82_53, e82_54, e82_57, q_gv0, q_gvs, q_isI1, q_isA1, q_hs0, q_hsn, q_hsi, q_hsr, q_hss, q_inc1, List.set_cons_zero, List.set_cons_succ, ↓reduceIte, q_ss0, q_ssi, q_ssr, q_nr0, q_nr10, q_nr11, q_tlS, q_tlN, q_cl, q_let, q_lef, q_ltt, q_ltf, q_eqt, q_eqf, q_add, q_mul, Nat.reduceAdd, Nat.reduceLeDiff, Nat.reduceEqDiff, eq_self, Nat.zero_le, Nat.le_refl, not_false_eq_true, not_true_eq_false, true_and, and_true, and_self, if_true, if_false, p1.g1, p1.l2, c1]
    exact hQ
theorem stF_of {M N : mv_Mem} {o p w : Nat} (h1 : N (o + 1) = M (o + 1)) (h5 : N (o + 5) = M (o + 5)) : ∀ n, stF N o p w n = stF M o p w n
  | 0 => rfl
  | n + 1 => by unfold stF; rw [h1, h5, stF_of h1 h5 n]
def tsF (M : mv_Mem) (a o nT : Nat) : Nat → mv_Mem
  | 0 => M
  | p + 1 => mv_up (mv_up (tsF M a o nT p) (a + 3) (2 * p) (stF M o p 0 nT)) (a + 3) (2 * p + 1) (stF M o p 1 nT)
theorem tsF_out {M : mv_Mem} {a o nT b : Nat} (h : ¬ b = a + 3) : ∀ n, tsF M a o nT n b = M b
  | 0 => rfl
  | n + 1 => by unfold tsF; rw [q_upO h, q_upO h]; exact tsF_out h n
theorem lp81 {S : Nat → mv_Sp} (h80 : S 80 = sp80) {sh : mv_Shp} {M : mv_Mem} {P : mv_Post} {a o nT nP : Nat} (p1 : oS sh a) (p2 : oL sh o) (p3 : o + 6 < a) (hT : M o 0 = nI nT) (hT6 : nT ≤ 6) (hP : M o 1 = nI nP) (hP6 : nP ≤ 6) (hk : ∀ t, t < 6 → ∃ k, k < 4 ∧ M (o + 1) t = nI k) (hQ : P (some (.int (nI (2 * nP)))) sh (tsF M a o nT nP)) :
    ∀ n p, p + n = nP → mr81 S P 2 [some (.ref a), some (.ref o), some (.int (nI p))] [] sh (tsF M a o nT p) 0 0
  | 0, p, h => by
    obtain rfl : p = nP := by omega
    have e1 : ∀ {n}, tsF M a o nT n o = M o := tsF_out (by omega) _
    rw [e81_2]
    simp (disch := first | assumption | omega) only [e81_0, e81_1, e81_3, e81_4, e81_7, e81_10, e81_11, e81_13, e81_16, e81_17, e81_20, e81_21, e81_22, e81_23, e81_24, e81_25, e81_26, e81_29, e81_30, e81_31, e81_34, e81_35, e81_36, e81_37, e81_38, e81_39, e81_40, e81_41, e81_42, e81_45, e81_46, e81_49, e81_52, e81_53, e81_54, e81_57, e81_59, e81_62, e81_63, q_gv0, q_gvs, q_isI1, q_isA1, q_hs0, q_hsn, q_hsi, q_hsr, q_hss, q_inc1, List.set_cons_zero, List.set_cons_succ, ↓reduceIte, q_ss0, q_ssi, q_ssr, q_nr0, q_nr10, q_nr11, q_tlS, q_tlN, q_cl, q_let, q_lef, q_ltt, q_ltf, q_eqt, q_eqf, q_add, q_mul, Nat.reduceAdd, Nat.reduceLeDiff, Nat.reduceEqDiff, eq_self, Nat.zero_le, Nat.le_refl, not_false_eq_true, not_true_eq_false, true_and, and_true, and_self, if_true, if_false, p2.g1, e1, hP]
    exact hQ
  | n + 1, p, h => by
    have ih := lp81 h80 p1 p2 p3 hT hT6 hP hP6 hk hQ n (p + 1) (by omega)
    have p6 : p < 6 := by omega
    have e0 : ∀ {n}, tsF M a o nT n o = M o := tsF_out (by omega) _
    have e1 : ∀ {n}, tsF M a o nT n (o + 1) = M (o + 1) := tsF_out (by omega) _
    have e5 : ∀ {n}, tsF M a o nT n (o + 5) = M (o + 5) := tsF_out (by omega) _
    have g0 : ∃ n, n ≤ 6 ∧ tsF M a o nT p o 0 = nI n := ⟨nT, hT6, by rw [e0]; exact hT⟩
    have g1 : ∀ t, t < 6 → ∃ k, k < 4 ∧ tsF M a o nT p (o + 1) t = nI k := by rw [e1]; exact hk
    have g2 : ∃ n, n ≤ 6 ∧ mv_up (tsF M a o nT p) (a + 3) (2 * p) (stF M o p 0 nT) o 0 = nI n := ⟨nT, hT6, by rw [q_upO (by omega), e0]; exact hT⟩
    have g3 : ∀ t, t < 6 → ∃ k, k < 4 ∧ mv_up (tsF M a o nT p) (a + 3) (2 * p) (stF M o p 0 nT) (o + 1) t = nI k := by rw [q_upO (by omega), e1]; exact hk
    have s0 : ∀ {w n}, stF (tsF M a o nT p) o p w n = stF M o p w n := stF_of e1 e5 _
    have s1 : ∀ {w n x}, stF (mv_up (tsF M a o nT p) (a + 3) (2 * p) x) o p w n = stF M o p w n := stF_of (by rw [q_upO (by omega)]; exact e1) (by rw [q_upO (by omega)]; exact e5) _
    unfold tsF at ih
    rw [e81_2]
    simp (disch := first | assumption | omega) only [e81_0, e81_1, e81_3, e81_4, e81_7, e81_10, e81_11, e81_13, e81_16, e81_17, e81_20, e81_21, e81_22, e81_23, e81_24, e81_25, e81_26, e81_29, e81_30, e81_31, e81_34, e81_35, e81_36, e81_37, e81_38, e81_39, e81_40, e81_41, e81_42, e81_45, e81_46, e81_49, e81_52, e81_53, e81_54, e81_57, e81_59, e81_62, e81_63, q_gv0, q_gvs, q_isI1, q_isA1, q_hs0, q_hsn, q_hsi, q_hsr, q_hss, q_inc1, List.set_cons_zero, List.set_cons_succ, ↓reduceIte, q_ss0, q_ssi, q_ssr, q_nr0, q_nr10, q_nr11, q_tlS, q_tlN, q_cl, q_let, q_lef, q_ltt, q_ltf, q_eqt, q_eqf, q_add, q_mul, Nat.reduceAdd, Nat.reduceLeDiff, Nat.reduceEqDiff, eq_self, Nat.zero_le, Nat.le_refl, not_false_eq_true, not_true_eq_false, true_and, and_true, and_self, if_true, if_false, p2.g1, p2.o, p1.g2, p1.s3, e0, hP, hT, cl80 h80, q_upO, s0, s1]
    exact ih
def sp81 : mv_Sp := fun As sh M Q => ∃ (a : Nat) (o : Nat), As = [.ref a, .ref o] ∧ ((oS sh a) ∧ (oL sh o) ∧ (o + 6 < a) ∧ (∃ n, n ≤ 6 ∧ M o 0 = nI n) ∧ (∃ n, n ≤ 6 ∧ M o 1 = nI n) ∧ (∀ t, t < 6 → ∃ k, k < 4 ∧ M (o + 1) t = nI k)) ∧ Q (some (.int (nI (2 * (M o 1).toNatClampNeg)))) (sh) (tsF M a o (M o 0).toNatClampNeg (M o 1).toNatClampNeg)
theorem cl81 {S : Nat → mv_Sp} (hS : S 81 = sp81) {sh : mv_Shp} {M : mv_Mem} {a : Nat} {o : Nat} (p1 : oS sh a) (p2 : oL sh o) (p3 : o + 6 < a) (p4 : ∃ n, n ≤ 6 ∧ M o 0 = nI n) (p5 : ∃ n, n ≤ 6 ∧ M o 1 = nI n) (p6 : ∀ t, t < 6 → ∃ k, k < 4 ∧ M (o + 1) t = nI k) {K : mv_Kt} {pc : Nat} {L : mv_Loc} {st : List Value} {cc_ ss_ : Nat} : mv_kal S 81 [.ref a, .ref o] sh M K pc L st cc_ ss_ = K pc L ((some (.int (nI (2 * (M o 1).toNatClampNeg))) : Option Value).toList ++ st) (sh) (tsF M a o (M o 0).toNatClampNeg (M o 1).toNatClampNeg) cc_ ss_ := by
  refine q_kal (fun F => q_cali (fun Q => ?_))
  rw [hS]
  constructor
  · rintro ⟨a', o', hE, ⟨zp1, zp2, zp3, zp4, zp5, zp6⟩, hQ⟩
    simp only [List.cons.injEq, Value.ref.injEq, Value.int.injEq, Value.long.injEq, and_true, true_and] at hE
    obtain ⟨rfl, rfl⟩ := hE
    exact hQ
  · intro hQ
    exact ⟨a, o, rfl, ⟨p1, p2, p3, p4, p5, p6⟩, hQ⟩
theorem ct81 {S : Nat → mv_Sp} (h80 : S 80 = sp80) : ∀ As sh M P, sp81 As sh M P → (mv_al0 As).length ≤ 3 ∧ mr81 S P 0 (mv_ent As 3) [] sh M 0 0 := by
  rintro As sh M P ⟨a, o, rfl, ⟨p1, p2, p3, p4, p5, p6⟩, hQ⟩
  refine ⟨Nat.le_of_ble_eq_true rfl, ?_⟩
  show mr81 S P 0 [some (.ref a), some (.ref o), none] [] sh M 0 0
  obtain ⟨nT, h6, hT⟩ := p4
  obtain ⟨nP, h7, hP⟩ := p5
  rw [hT, hP, q_cl (show nT < 2147483648 by omega), q_cl (show nP < 2147483648 by omega)] at hQ
  simp (disch := first | assumption | omega) only [e81_0, e81_1, q_gv0, q_gvs, q_isI1, q_isA1, q_hs0, q_hsn, q_hsi, q_hsr, q_hss, q_inc1, List.set_cons_zero, List.set_cons_succ, ↓reduceIte, q_ss0, q_ssi, q_ssr, q_nr0, q_nr10, q_nr11, q_tlS, q_tlN, q_cl, q_let, q_lef, q_ltt, q_ltf, q_eqt, q_eqf, q_add, q_mul, Nat.reduceAdd, Nat.reduceLeDiff, Nat.reduceEqDiff, eq_self, Nat.zero_le, Nat.le_refl, not_false_eq_true, not_true_eq_false, true_and, and_true, and_self, if_true, if_false]
  exact lp81 h80 p1 p2 p3 hT h6 hP h7 p6 hQ nP 0 (by omega)
