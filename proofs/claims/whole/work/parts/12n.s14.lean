/-! amiss; the search's small ones -/
theorem shF_01 (g : Nat → Int32) : ∀ t v, shF g t v = 0 ∨ shF g t v = 1
  | 0, v => by unfold shF; split <;> simp
  | t + 1, v => by
    unfold shF
    split
    · exact shF_01 g t _
    · simp
def shB (M : mv_Mem) (a : Nat) (x : Int32) (v : Nat) : Nat := shF (fun t => M (a + 3) (t * 4 + (hlF x t).toNatClampNeg)) (M a 0).toNatClampNeg v
def adT (x y : Int32) : Int32 := ((x &&& nI 1365) + (y &&& nI 1365)) ^^^ ((x ^^^ y) &&& nI 2730)
theorem cr74 {S : Nat → mv_Sp} (h : S 74 = sp74) {sh : mv_Shp} {M : mv_Mem} {a v : Nat} {x : Int32} {K : mv_Kt} {pc : Nat} {L : mv_Loc} {st : List Value} {c s : Nat} (p1 : oL sh a) (p2 : ∃ n, n ≤ 6 ∧ M a 0 = nI n) (p3 : v < 2147483648) :
    mv_kal S 74 [.ref a, .int x, .int (nI v)] sh M K pc L st c s = K pc L ((some (.int (nI (shB M a x v)))).toList ++ st) sh M c s := cl74 h p1 p2 p3
theorem cr51 {S : Nat → mv_Sp} (h : S 51 = sp51) {sh : mv_Shp} {M : mv_Mem} {x y : Int32} {K : mv_Kt} {pc : Nat} {L : mv_Loc} {st : List Value} {c s : Nat} :
    mv_kal S 51 [.int x, .int y] sh M K pc L st c s = K pc L ((some (.int (adT x y))).toList ++ st) sh M c s := cl51 h trivial
def amG (M : mv_Mem) (x : Int32) (v t : Nat) (b : Int32) : Int32 := if shB M 3 (adT x (nI 1 <<< (nI (2 * t) &&& 31))) v = 1 then b ||| (nI 1 <<< (nI t &&& 31)) else b
def amH (M : mv_Mem) (x : Int32) (v t : Nat) (b : Int32) : Int32 := if shB M 3 (adT x (nI 3 <<< (nI (2 * t) &&& 31))) v = 1 then b ||| (nI 1 <<< (nI (t + 6) &&& 31)) else b
def amF (M : mv_Mem) (x : Int32) (v : Nat) : Nat → Int32
  | 0 => nI 0
  | t + 1 => amH M x v t (amG M x v t (amF M x v t))
theorem lp75 {S : Nat → mv_Sp} (h51 : S 51 = sp51) (h65 : S 65 = sp65) (h74 : S 74 = sp74) {sh : mv_Shp} {M : mv_Mem} {P : mv_Post} {nT v : Nat} {x : Int32} (p1 : oX sh) (hT : M 3 0 = nI nT) (hT6 : nT ≤ 6) (hv : v < 2147483648) (hQ : P (some (.int (amF M x v nT))) sh M) :
    ∀ n t, t + n = nT → mr75 S P 26 [some (.ref 0), some (.int (nI v)), some (.int x), some (.int (amF M x v t)), some (.int (nI t))] [] sh M 0 0
  | 0, t, h => by
    obtain rfl : t = nT := by omega
    have hl := p1.loom
    rw [e75_26]
    simp (disch := first | assumption | omega) only [e75_0, e75_1, e75_4, e75_5, e75_8, e75_11, e75_12, e75_13, e75_14, e75_17, e75_20, e75_21, e75_22, e75_23, e75_24, e75_28, e75_29, e75_32, e75_35, e75_38, e75_39, e75_42, e75_43, e75_45, e75_46, e75_49, e75_52, e75_53, e75_56, e75_59, e75_60, e75_61, e75_63, e75_64, e75_65, e75_66, e75_67, e75_70, e75_71, e75_73, e75_74, e75_77, e75_80, e75_81, e75_84, e75_87, e75_88, e75_89, e75_91, e75_93, e75_94, e75_95, e75_96, e75_97, e75_100, e75_103, e75_104, q_gv0, q_gvs, q_isI1, q_isA1, q_hs0, q_hsn, q_hsi, q_hsr, q_hss, q_inc1, List.set_cons_zero, List.set_cons_succ, ↓reduceIte, q_ss0, q_ssi, q_ssr, q_nr0, q_nr10, q_nr11, q_tlS, q_tlN, q_cl, q_let, q_lef, q_ltt, q_ltf, q_eqt, q_eqf, q_add, q_mul, Nat.reduceAdd, Nat.reduceLeDiff, Nat.reduceEqDiff, eq_self, Nat.zero_le, Nat.le_refl, not_false_eq_true, not_true_eq_false, true_and, and_true, and_self, if_true, if_false, p1.g1, hl.g0, hT]
    exact hQ
  | n + 1, t, h => by
    have hl := p1.loom
    have hn : ∃ n, n ≤ 6 ∧ M 3 0 = nI n := ⟨nT, hT6, hT⟩
    have ih := lp75 h51 h65 h74 p1 hT hT6 hv hQ n (t + 1) (by omega)
    have t6 : t < 6 := by omega
    unfold amF at ih
    generalize amF M x v t = b at ih ⊢
    unfold amG amH at ih
    rw [e75_26]
    have s1 : shB M 3 (adT x (nI 1 <<< (nI (2 * t) &&& 31))) v = 0 ∨ shB M 3 (adT x (nI 1 <<< (nI (2 * t) &&& 31))) v = 1 := shF_01 _ _ _
    have s2 : shB M 3 (adT x (nI 3 <<< (nI (2 * t) &&& 31))) v = 0 ∨ shB M 3 (adT x (nI 3 <<< (nI (2 * t) &&& 31))) v = 1 := shF_01 _ _ _
    have z : ¬ (0 : Nat) = 1 := by decide
    rcases s1 with s1 | s1
    · rcases s2 with s2 | s2
      · simp only [s1, s2, z, if_false] at ih
        simp (disch := first | assumption | omega) only [e75_0, e75_1, e75_4, e75_5, e75_8, e75_11, e75_12, e75_13, e75_14, e75_17, e75_20, e75_21, e75_22, e75_23, e75_24, e75_28, e75_29, e75_32, e75_35, e75_38, e75_39, e75_42, e75_43, e75_45, e75_46, e75_49, e75_52, e75_53, e75_56, e75_59, e75_60, e75_61, e75_63, e75_64, e75_65, e75_66, e75_67, e75_70, e75_71, e75_73, e75_74, e75_77, e75_80, e75_81, e75_84, e75_87, e75_88, e75_89, e75_91, e75_93, e75_94, e75_95, e75_96, e75_97, e75_100, e75_103, e75_104, q_gv0, q_gvs, q_isI1, q_isA1, q_hs0, q_hsn, q_hsi, q_hsr, q_hss, q_inc1, List.set_cons_zero, List.set_cons_succ, ↓reduceIte, q_ss0, q_ssi, q_ssr, q_nr0, q_nr10, q_nr11, q_tlS, q_tlN, q_cl, q_let, q_lef, q_ltt, q_ltf, q_eqt, q_eqf, q_add, q_mul, Nat.reduceAdd, Nat.reduceLeDiff, Nat.reduceEqDiff, eq_self, Nat.zero_le, Nat.le_refl, not_false_eq_true, not_true_eq_false, true_and, and_true, and_self, if_true, if_false, p1.g1, hl.g0, hl.o, hT, cr51 h51, cl65 h65, cr74 h74, s1, s2]
        exact ih
      · simp only [s1, s2, z, if_false, if_true] at ih
        simp (disch := first | assumption | omega) only [e75_0, e75_1, e75_4, e75_5, e75_8, e75_11, e75_12, e75_13, e75_14, e75_17, e75_20, e75_21, e75_22, e75_23, e75_24, e75_28, e75_29, e75_32, e75_35, e75_38, e75_39, e75_42, e75_43, e75_45, e75_46, e75_49, e75_52, e75_53, e75_56, e75_59, e75_60, e75_61, e75_63, e75_64, e75_65, e75_66, e75_67, e75_70, e75_71, e75_73, e75_74, e75_77, e75_80, e75_81, e75_84, e75_87, e75_88, e75_89, e75_91, e75_93, e75_94, e75_95, e75_96, e75_97, e75_100, e75_103, e75_104, q_gv0, q_gvs, q_isI1, q_isA1, q_hs0, q_hsn, q_hsi, q_hsr, q_hss, q_inc1, List.set_cons_zero, List.set_cons_succ, ↓reduceIte, q_ss0, q_ssi, q_ssr, q_nr0, q_nr10, q_nr11, q_tlS, q_tlN, q_cl, q_let, q_lef, q_ltt, q_ltf, q_eqt, q_eqf, q_add, q_mul, Nat.reduceAdd, Nat.reduceLeDiff, Nat.reduceEqDiff, eq_self, Nat.zero_le, Nat.le_refl, not_false_eq_true, not_true_eq_false, true_and, and_true, and_self, if_true, if_false, p1.g1, hl.g0, hl.o, hT, cr51 h51, cl65 h65, cr74 h74, s1, s2]
        exact ih
    · rcases s2 with s2 | s2
      · simp only [s1, s2, z, if_false, if_true] at ih
        simp (disch := first | assumption | omega) only [e75_0, e75_1, e75_4, e75_5, e75_8, e75_11, e75_12, e75_13, e75_14, e75_17, e75_20, e75_21, e75_22, e75_23, e75_24, e75_28, e75_29, e75_32, e75_35, e75_38, e75_39, e75_42, e75_43, e75_45, e75_46, e75_49, e75_52, e75_53, e75_56, e75_59, e75_60, e75_61, e75_63, e75_64, e75_65, e75_66, e75_67, e75_70, e75_71, e75_73, e75_74, e75_77, e75_80, e75_81, e75_84, e75_87, e75_88, e75_89, e75_91, e75_93, e75_94, e75_95, e75_96, e75_97, e75_100, e75_103, e75_104, q_gv0, q_gvs, q_isI1, q_isA1, q_hs0, q_hsn, q_hsi, q_hsr, q_hss, q_inc1, List.set_cons_zero, List.set_cons_succ, ↓reduceIte, q_ss0, q_ssi, q_ssr, q_nr0, q_nr10, q_nr11, q_tlS, q_tlN, q_cl, q_let, q_lef, q_ltt, q_ltf, q_eqt, q_eqf, q_add, q_mul, Nat.reduceAdd, Nat.reduceLeDiff, Nat.reduceEqDiff, eq_self, Nat.zero_le, Nat.le_refl, not_false_eq_true, not_true_eq_false, true_and, and_true, and_self, if_true, if_false, p1.g1, hl.g0, hl.o, hT, cr51 h51, cl65 h65, cr74 h74, s1, s2]
        exact ih
      · simp only [s1, s2, if_true] at ih
        simp (disch := first | assumption | omega) only [e75_0, e75_1, e75_4, e75_5, e75_8, e75_11, e75_12, e75_13, e75_14, e75_17, e75_20, e75_21, e75_22, e75_23, e75_24, e75_28, e75_29, e75_32, e75_35, e75_38, e75_39, e75_42, e75_43, e75_45, e75_46, e75_49, e75_52, e75_53, e75_56, e75_59, e75_60, e75_61, e75_63, e75_64, e75_65, e75_66, e75_67, e75_70, e75_71, e75_73, e75_74, e75_77, e75_80, e75_81, e75_84, e75_87, e75_88, e75_89, e75_91, e75_93, e75_94, e75_95, e75_96, e75_97, e75_100, e75_103, e75_104, q_gv0, q_gvs, q_isI1, q_isA1, q_hs0, q_hsn, q_hsi, q_hsr, q_hss, q_inc1, List.set_cons_zero, List.set_cons_succ, ↓reduceIte, q_ss0, q_ssi, q_ssr, q_nr0, q_nr10, q_nr11, q_tlS, q_tlN, q_cl, q_let, q_lef, q_ltt, q_ltf, q_eqt, q_eqf, q_add, q_mul, Nat.reduceAdd, Nat.reduceLeDiff, Nat.reduceEqDiff, eq_self, Nat.zero_le, Nat.le_refl, not_false_eq_true, not_true_eq_false, true_and, and_true, and_self, if_true, if_false, p1.g1, hl.g0, hl.o, hT, cr51 h51, cl65 h65, cr74 h74, s1, s2]
        exact ih
/-- the cloth's tops -/
def tpX (M : mv_Mem) (c : Nat) : Int32 := tpF (fun t => M (c + 1) (t * 5 + 0)) 6
theorem cr66 {S : Nat → mv_Sp} (h : S 66 = sp66) {sh : mv_Shp} {M : mv_Mem} {a : Nat} {K : mv_Kt} {pc : Nat} {L : mv_Loc} {st : List Value} {c s : Nat} (p1 : oC sh a) :
    mv_kal S 66 [.ref a] sh M K pc L st c s = K pc L ((some (.int (tpX M a))).toList ++ st) sh M c s := cl66 h p1
def sp75 : mv_Sp := fun As sh M Q => ∃ (x : Int32), As = [.ref 0, .int x] ∧ ((oX sh) ∧ (∃ n, n ≤ 6 ∧ M 3 0 = nI n)) ∧ Q (some (.int (if x < nI 0 then Int32.ofInt (-1) else if nI (10 ^ (M 3 0).toNatClampNeg) ≤ x then Int32.ofInt (-1) else amF M (tpX M 18) x.toNatClampNeg (M 3 0).toNatClampNeg))) (sh) (M)
theorem cl75 {S : Nat → mv_Sp} (hS : S 75 = sp75) {sh : mv_Shp} {M : mv_Mem} {x : Int32} (p1 : oX sh) (p2 : ∃ n, n ≤ 6 ∧ M 3 0 = nI n) {K : mv_Kt} {pc : Nat} {L : mv_Loc} {st : List Value} {cc_ ss_ : Nat} : mv_kal S 75 [.ref 0, .int x] sh M K pc L st cc_ ss_ = K pc L ((some (.int (if x < nI 0 then Int32.ofInt (-1) else if nI (10 ^ (M 3 0).toNatClampNeg) ≤ x then Int32.ofInt (-1) else amF M (tpX M 18) x.toNatClampNeg (M 3 0).toNatClampNeg)) : Option Value).toList ++ st) (sh) (M) cc_ ss_ := by
  refine q_kal (fun F => q_cali (fun Q => ?_))
  rw [hS]
  constructor
  · rintro ⟨x', hE, ⟨zp1, zp2⟩, hQ⟩
    simp only [List.cons.injEq, Value.ref.injEq, Value.int.injEq, Value.long.injEq, and_true, true_and] at hE
    subst hE
    exact hQ
  · intro hQ
    exact ⟨x, rfl, ⟨p1, p2⟩, hQ⟩
theorem ct75 {S : Nat → mv_Sp} (h51 : S 51 = sp51) (h65 : S 65 = sp65) (h66 : S 66 = sp66) (h73 : S 73 = sp73) (h74 : S 74 = sp74) : ∀ As sh M P, sp75 As sh M P → (mv_al0 As).length ≤ 5 ∧ mr75 S P 0 (mv_ent As 5) [] sh M 0 0 := by
  rintro As sh M P ⟨x, rfl, ⟨p1, p2⟩, hQ⟩
  refine ⟨Nat.le_of_ble_eq_true rfl, ?_⟩
  show mr75 S P 0 [some (.ref 0), some (.int x), none, none, none] [] sh M 0 0
  have hl := p1.loom
  have hc := p1.cloth
  obtain ⟨nT, h6, hT⟩ := id p2
  rcases i32_c x with c1 | ⟨k, hk, rfl⟩
  · simp only [c1, if_true] at hQ
    simp (disch := first | assumption | omega) only [e75_0, e75_1, e75_4, e75_5, e75_8, e75_11, e75_12, q_gv0, q_gvs, q_isI1, q_isA1, q_hs0, q_hsn, q_hsi, q_hsr, q_hss, q_inc1, List.set_cons_zero, List.set_cons_succ, ↓reduceIte, q_ss0, q_ssi, q_ssr, q_nr0, q_nr10, q_nr11, q_tlS, q_tlN, q_cl, q_let, q_lef, q_ltt, q_ltf, q_eqt, q_eqf, q_add, q_mul, Nat.reduceAdd, Nat.reduceLeDiff, Nat.reduceEqDiff, eq_self, Nat.zero_le, Nat.le_refl, not_false_eq_true, not_true_eq_false, true_and, and_true, and_self, if_true, if_false, p1.g1, hl.o, cl73 h73, c1]
    exact hQ
  have c1 : (nI k < nI 0) = False := q_ltf (by omega) hk
  simp only [c1, if_false] at hQ
  by_cases c2 : nI (10 ^ (M 3 0).toNatClampNeg) ≤ nI k
  · simp only [c2, if_true] at hQ
    simp (disch := first | assumption | omega) only [e75_0, e75_1, e75_4, e75_5, e75_8, e75_11, e75_12, q_gv0, q_gvs, q_isI1, q_isA1, q_hs0, q_hsn, q_hsi, q_hsr, q_hss, q_inc1, List.set_cons_zero, List.set_cons_succ, ↓reduceIte, q_ss0, q_ssi, q_ssr, q_nr0, q_nr10, q_nr11, q_tlS, q_tlN, q_cl, q_let, q_lef, q_ltt, q_ltf, q_eqt, q_eqf, q_add, q_mul, Nat.reduceAdd, Nat.reduceLeDiff, Nat.reduceEqDiff, eq_self, Nat.zero_le, Nat.le_refl, not_false_eq_true, not_true_eq_false, true_and, and_true, and_self, if_true, if_false, p1.g1, hl.o, cl73 h73, c1, c2]
    exact hQ
  simp only [c2, if_false] at hQ
  rw [hT, q_cl (show nT < 2147483648 by omega), q_cl hk] at hQ
  simp (disch := first | assumption | omega) only [e75_0, e75_1, e75_4, e75_5, e75_8, e75_13, e75_14, e75_17, e75_20, e75_21, e75_22, e75_23, e75_24, q_gv0, q_gvs, q_isI1, q_isA1, q_hs0, q_hsn, q_hsi, q_hsr, q_hss, q_inc1, List.set_cons_zero, List.set_cons_succ, ↓reduceIte, q_ss0, q_ssi, q_ssr, q_nr0, q_nr10, q_nr11, q_tlS, q_tlN, q_cl, q_let, q_lef, q_ltt, q_ltf, q_eqt, q_eqf, q_add, q_mul, Nat.reduceAdd, Nat.reduceLeDiff, Nat.reduceEqDiff, eq_self, Nat.zero_le, Nat.le_refl, not_false_eq_true, not_true_eq_false, true_and, and_true, and_self, if_true, if_false, p1.g1, p1.g3, hl.o, hc.o, cl73 h73, cr66 h66, c1, c2]
  exact lp75 h51 h65 h74 p1 hT h6 hk hQ nT 0 (by omega)
