/-! sought -/
def mkV (x s : Nat) : Int32 := nI 1 + (nI x <<< (nI 4 &&& 31) ||| nI s)
def skI (a x : Nat) : Nat → Nat → mv_Mem → mv_Mem
  | 0, _, M => M
  | n + 1, s, M => skI a x n (s + 1) (enM M a (adN x (M (a + 3) s).toNatClampNeg) (mkV x s))
def skF (a o v N : Nat) : Nat → Nat → mv_Mem → Int32 × mv_Mem
  | 0, _, M => (Int32.ofInt (-1), M)
  | n + 1, i, M => if i < (M a 3).toNatClampNeg then if shB M o (M (a + 1) i) v = 1 then (M (a + 1) i, M) else skF a o v N n (i + 1) (skI a (M (a + 1) i).toNatClampNeg N 0 M) else (Int32.ofInt (-1), M)
theorem sL_skI {a x : Nat} : ∀ n s (M : mv_Mem), sL M a → sL (skI a x n s M) a
  | 0, _, _, h => h
  | n + 1, s, M, h => sL_skI n (s + 1) _ (sL_en h (adN_lt _ _))
theorem gL_skI {a x o : Nat} (ho : o + 6 < a) : ∀ n s (M : mv_Mem), gL M o → gL (skI a x n s M) o
  | 0, _, _, h => h
  | n + 1, s, M, h => gL_skI ho n (s + 1) _ (gL_en h ho)
theorem lp99i {S : Nat → mv_Sp} (h82 : S 82 = sp82) (h84 : S 84 = sp84) {sh : mv_Shp} {P : mv_Post} {a o v N x : Nat} {y i : Int32} (p1 : oS sh a) (hx : x < 4096) (hN : N < 13) :
    ∀ n s (M : mv_Mem), s + n = N → sL M a → (∀ s', mr99 S P 92 [some (.ref a), some (.ref o), some (.int y), some (.int (nI v)), some (.int (nI N)), some (.int i), some (.int (nI x)), s'] [] sh (skI a x n s M) 0 0) →
      mr99 S P 58 [some (.ref a), some (.ref o), some (.int y), some (.int (nI v)), some (.int (nI N)), some (.int i), some (.int (nI x)), some (.int (nI s))] [] sh M 0 0
  | 0, s, M, h, hM, hQ => by
    obtain rfl : s = N := by omega
    rw [e99_58]
    simp (disch := first | assumption | omega) only [e99_0, e99_1, e99_2, e99_5, e99_7, e99_8, e99_9, e99_10, e99_13, e99_14, e99_16, e99_18, e99_19, e99_22, e99_25, e99_27, e99_30, e99_33, e99_34, e99_37, e99_39, e99_40, e99_42, e99_43, e99_45, e99_46, e99_49, e99_52, e99_54, e99_55, e99_56, e99_60, e99_62, e99_65, e99_66, e99_67, e99_69, e99_71, e99_74, e99_75, e99_77, e99_78, e99_79, e99_81, e99_82, e99_83, e99_86, e99_89, e99_95, e99_98, e99_99, q_gv0, q_gvs, q_isI1, q_isA1, q_hs0, q_hsn, q_hsi, q_hsr, q_hss, q_inc1, List.set_cons_zero, List.set_cons_succ, ↓reduceIte, q_ss0, q_ssi, q_ssr, q_nr0, q_nr10, q_nr11, q_tlS, q_tlN, q_cl, q_let, q_lef, q_ltt, q_ltf, q_eqt, q_eqf, q_add, q_mul, Nat.reduceAdd, Nat.reduceLeDiff, Nat.reduceEqDiff, eq_self, Nat.zero_le, Nat.le_refl, not_false_eq_true, not_true_eq_false, true_and, and_true, and_self, if_true, if_false]
    exact hQ _
  | n + 1, s, M, h, hM, hQ => by
    obtain ⟨e, he, hE⟩ := hM.2.2 s (by omega)
    have b1 := adN_lt x e
    have hl := hM.1
    unfold skI at hQ
    rw [hE, q_cl (show e < 2147483648 by omega)] at hQ
    have em : nI 1 + (nI x <<< (nI 4 &&& 31) ||| nI s) = mkV x s := rfl
    rw [e99_58]
    simp (disch := first | assumption | omega) only [e99_0, e99_1, e99_2, e99_5, e99_7, e99_8, e99_9, e99_10, e99_13, e99_14, e99_16, e99_18, e99_19, e99_22, e99_25, e99_27, e99_30, e99_33, e99_34, e99_37, e99_39, e99_40, e99_42, e99_43, e99_45, e99_46, e99_49, e99_52, e99_54, e99_55, e99_56, e99_60, e99_62, e99_65, e99_66, e99_67, e99_69, e99_71, e99_74, e99_75, e99_77, e99_78, e99_79, e99_81, e99_82, e99_83, e99_86, e99_89, e99_95, e99_98, e99_99, q_gv0, q_gvs, q_isI1, q_isA1, q_hs0, q_hsn, q_hsi, q_hsr, q_hss, q_inc1, List.set_cons_zero, List.set_cons_succ, ↓reduceIte, q_ss0, q_ssi, q_ssr, q_nr0, q_nr10, q_nr11, q_tlS, q_tlN, q_cl, q_let, q_lef, q_ltt, q_ltf, q_eqt, q_eqf, q_add, q_mul, Nat.reduceAdd, Nat.reduceLeDiff, Nat.reduceEqDiff, eq_self, Nat.zero_le, Nat.le_refl, not_false_eq_true, not_true_eq_false, true_and, and_true, and_self, if_true, if_false, p1.o, cl84 h84, hE, adT_N, cl82 h82, em]
    exact lp99i h82 h84 p1 hx hN n (s + 1) _ (by omega) (sL_en hM b1) hQ
theorem lp99 {S : Nat → mv_Sp} (h74 : S 74 = sp74) (h82 : S 82 = sp82) (h84 : S 84 = sp84) {sh : mv_Shp} {P : mv_Post} {a o v N : Nat} {y : Int32} (p1 : oS sh a) (p2 : oL sh o) (p3 : o + 6 < a) (hN : N < 13) (hv : v < 2147483648) :
    ∀ n i (M : mv_Mem) z z2, i + n = 4096 → sL M a → gL M o → P (some (.int (skF a o v N n i M).1)) sh (skF a o v N n i M).2 →
      mr99 S P 16 [some (.ref a), some (.ref o), some (.int y), some (.int (nI v)), some (.int (nI N)), some (.int (nI i)), z, z2] [] sh M 0 0
  | 0, i, M, z, z2, h, hM, hG, hQ => by
    obtain rfl : i = 4096 := by omega
    obtain ⟨l, hl, hL⟩ := hM.1
    rw [e99_16]
    by_cases c : l ≤ 4096
    · by_cases c2 : l = 4096
      · subst c2
        simp (disch := first | assumption | omega) only [e99_0, e99_1, e99_2, e99_5, e99_7, e99_8, e99_9, e99_10, e99_13, e99_14, e99_18, e99_19, e99_22, e99_25, e99_27, e99_30, e99_33, e99_34, e99_37, e99_39, e99_40, e99_42, e99_43, e99_45, e99_46, e99_49, e99_52, e99_54, e99_55, e99_56, e99_60, e99_62, e99_65, e99_66, e99_67, e99_69, e99_71, e99_74, e99_75, e99_77, e99_78, e99_79, e99_81, e99_82, e99_83, e99_86, e99_89, e99_95, e99_98, e99_99, q_gv0, q_gvs, q_isI1, q_isA1, q_hs0, q_hsn, q_hsi, q_hsr, q_hss, q_inc1, List.set_cons_zero, List.set_cons_succ, ↓reduceIte, q_ss0, q_ssi, q_ssr, q_nr0, q_nr10, q_nr11, q_tlS, q_tlN, q_cl, q_let, q_lef, q_ltt, q_ltf, q_eqt, q_eqf, q_add, q_mul, Nat.reduceAdd, Nat.reduceLeDiff, Nat.reduceEqDiff, eq_self, Nat.zero_le, Nat.le_refl, not_false_eq_true, not_true_eq_false, true_and, and_true, and_self, if_true, if_false, p1.g3, hL]
        exact hQ
      · simp (disch := first | assumption | omega) only [e99_0, e99_1, e99_2, e99_5, e99_7, e99_8, e99_9, e99_10, e99_13, e99_14, e99_18, e99_19, e99_22, e99_25, e99_27, e99_30, e99_33, e99_34, e99_37, e99_39, e99_40, e99_42, e99_43, e99_45, e99_46, e99_49, e99_52, e99_54, e99_55, e99_56, e99_60, e99_62, e99_65, e99_66, e99_67, e99_69, e99_71, e99_74, e99_75, e99_77, e99_78, e99_79, e99_81, e99_82, e99_83, e99_86, e99_89, e99_95, e99_98, e99_99, q_gv0, q_gvs, q_isI1, q_isA1, q_hs0, q_hsn, q_hsi, q_hsr, q_hss, q_inc1, List.set_cons_zero, List.set_cons_succ, ↓reduceIte, q_ss0, q_ssi, q_ssr, q_nr0, q_nr10, q_nr11, q_tlS, q_tlN, q_cl, q_let, q_lef, q_ltt, q_ltf, q_eqt, q_eqf, q_add, q_mul, Nat.reduceAdd, Nat.reduceLeDiff, Nat.reduceEqDiff, eq_self, Nat.zero_le, Nat.le_refl, not_false_eq_true, not_true_eq_false, true_and, and_true, and_self, if_true, if_false, p1.g3, hL]
        exact hQ
    · exact absurd hl (by omega)
  | n + 1, i, M, z, z2, h, hM, hG, hQ => by
    obtain ⟨l, hl, hL⟩ := hM.1
    have hg := hG.1
    unfold skF at hQ
    rw [hL, q_cl (show l < 2147483648 by omega)] at hQ
    rw [e99_16]
    by_cases c : i < l
    · rw [if_pos c] at hQ
      obtain ⟨x, hx, hX⟩ := hM.2.1 i (by rw [hL, q_cl (by omega)]; exact c)
      rw [hX, q_cl (show x < 2147483648 by omega)] at hQ
      have s1 : shB M o (nI x) v = 0 ∨ shB M o (nI x) v = 1 := shF_01 _ _ _
      rcases s1 with s1 | s1
      · rw [if_neg (by rw [s1]; decide)] at hQ
        simp (disch := first | assumption | omega) only [e99_0, e99_1, e99_2, e99_5, e99_7, e99_8, e99_9, e99_10, e99_13, e99_14, e99_18, e99_19, e99_22, e99_25, e99_27, e99_30, e99_33, e99_34, e99_37, e99_39, e99_40, e99_42, e99_43, e99_45, e99_46, e99_49, e99_52, e99_54, e99_55, e99_56, e99_60, e99_62, e99_65, e99_66, e99_67, e99_69, e99_71, e99_74, e99_75, e99_77, e99_78, e99_79, e99_81, e99_82, e99_83, e99_86, e99_89, e99_95, e99_98, e99_99, q_gv0, q_gvs, q_isI1, q_isA1, q_hs0, q_hsn, q_hsi, q_hsr, q_hss, q_inc1, List.set_cons_zero, List.set_cons_succ, ↓reduceIte, q_ss0, q_ssi, q_ssr, q_nr0, q_nr10, q_nr11, q_tlS, q_tlN, q_cl, q_let, q_lef, q_ltt, q_ltf, q_eqt, q_eqf, q_add, q_mul, Nat.reduceAdd, Nat.reduceLeDiff, Nat.reduceEqDiff, eq_self, Nat.zero_le, Nat.le_refl, not_false_eq_true, not_true_eq_false, true_and, and_true, and_self, if_true, if_false, p1.g3, p1.g0, p1.l1, p2.o, hL, hX, cr74 h74, s1]
        refine lp99i h82 h84 p1 hx hN N 0 M (by omega) hM (fun s' => ?_)
        simp (disch := first | assumption | omega) only [e99_0, e99_1, e99_2, e99_5, e99_7, e99_8, e99_9, e99_10, e99_13, e99_14, e99_18, e99_19, e99_22, e99_25, e99_27, e99_30, e99_33, e99_34, e99_37, e99_39, e99_40, e99_42, e99_43, e99_45, e99_46, e99_49, e99_52, e99_54, e99_55, e99_56, e99_60, e99_62, e99_65, e99_66, e99_67, e99_69, e99_71, e99_74, e99_75, e99_77, e99_78, e99_79, e99_81, e99_82, e99_83, e99_86, e99_89, e99_92, e99_95, e99_98, e99_99, q_gv0, q_gvs, q_isI1, q_isA1, q_hs0, q_hsn, q_hsi, q_hsr, q_hss, q_inc1, List.set_cons_zero, List.set_cons_succ, ↓reduceIte, q_ss0, q_ssi, q_ssr, q_nr0, q_nr10, q_nr11, q_tlS, q_tlN, q_cl, q_let, q_lef, q_ltt, q_ltf, q_eqt, q_eqf, q_add, q_mul, Nat.reduceAdd, Nat.reduceLeDiff, Nat.reduceEqDiff, eq_self, Nat.zero_le, Nat.le_refl, not_false_eq_true, not_true_eq_false, true_and, and_true, and_self, if_true, if_false]
        exact lp99 h74 h82 h84 p1 p2 p3 hN hv n (i + 1) _ _ _ (by omega) (sL_skI _ _ _ hM) (gL_skI p3 _ _ _ hG) hQ
      · rw [if_pos s1] at hQ
        simp (disch := first | assumption | omega) only [e99_0, e99_1, e99_2, e99_5, e99_7, e99_8, e99_9, e99_10, e99_13, e99_14, e99_18, e99_19, e99_22, e99_25, e99_27, e99_30, e99_33, e99_34, e99_37, e99_39, e99_40, e99_42, e99_43, e99_45, e99_46, e99_49, e99_52, e99_54, e99_55, e99_56, e99_60, e99_62, e99_65, e99_66, e99_67, e99_69, e99_71, e99_74, e99_75, e99_77, e99_78, e99_79, e99_81, e99_82, e99_83, e99_86, e99_89, e99_95, e99_98, e99_99, q_gv0, q_gvs, q_isI1, q_isA1, q_hs0, q_hsn, q_hsi, q_hsr, q_hss, q_inc1, List.set_cons_zero, List.set_cons_succ, ↓reduceIte, q_ss0, q_ssi, q_ssr, q_nr0, q_nr10, q_nr11, q_tlS, q_tlN, q_cl, q_let, q_lef, q_ltt, q_ltf, q_eqt, q_eqf, q_add, q_mul, Nat.reduceAdd, Nat.reduceLeDiff, Nat.reduceEqDiff, eq_self, Nat.zero_le, Nat.le_refl, not_false_eq_true, not_true_eq_false, true_and, and_true, and_self, if_true, if_false, p1.g3, p1.g0, p1.l1, p2.o, hL, hX, cr74 h74, s1]
        exact hQ
    · rw [if_neg c] at hQ
      simp (disch := first | assumption | omega) only [e99_0, e99_1, e99_2, e99_5, e99_7, e99_8, e99_9, e99_10, e99_13, e99_14, e99_18, e99_19, e99_22, e99_25, e99_27, e99_30, e99_33, e99_34, e99_37, e99_39, e99_40, e99_42, e99_43, e99_45, e99_46, e99_49, e99_52, e99_54, e99_55, e99_56, e99_60, e99_62, e99_65, e99_66, e99_67, e99_69, e99_71, e99_74, e99_75, e99_77, e99_78, e99_79, e99_81, e99_82, e99_83, e99_86, e99_89, e99_95, e99_98, e99_99, q_gv0, q_gvs, q_isI1, q_isA1, q_hs0, q_hsn, q_hsi, q_hsr, q_hss, q_inc1, List.set_cons_zero, List.set_cons_succ, ↓reduceIte, q_ss0, q_ssi, q_ssr, q_nr0, q_nr10, q_nr11, q_tlS, q_tlN, q_cl, q_let, q_lef, q_ltt, q_ltf, q_eqt, q_eqf, q_add, q_mul, Nat.reduceAdd, Nat.reduceLeDiff, Nat.reduceEqDiff, eq_self, Nat.zero_le, Nat.le_refl, not_false_eq_true, not_true_eq_false, true_and, and_true, and_self, if_true, if_false, p1.g3, hL]
      exact hQ
theorem gL_sl {M : mv_Mem} {a x o : Nat} {v : Int32} (h : gL M o) (ho : o + 6 < a) : gL (slM M a x v) o :=
  gL_of h (slM_out (by omega) (by omega) (by omega)) (slM_out (by omega) (by omega) (by omega)) (slM_out (by omega) (by omega) (by omega)) (slM_out (by omega) (by omega) (by omega)) (slM_out (by omega) (by omega) (by omega)) (slM_out (by omega) (by omega) (by omega)) (slM_out (by omega) (by omega) (by omega))
theorem gL_ts {M : mv_Mem} {a o nT n : Nat} (h : gL M o) (ho : o + 6 < a) : gL (tsF M a o nT n) o :=
  gL_of h (tsF_out (by omega) _) (tsF_out (by omega) _) (tsF_out (by omega) _) (tsF_out (by omega) _) (tsF_out (by omega) _) (tsF_out (by omega) _) (tsF_out (by omega) _)
def skM (M : mv_Mem) (a o x v : Nat) : Int32 × mv_Mem := skF a o v (2 * (M o 1).toNatClampNeg) 4096 0 (slM (tsF M a o (M o 0).toNatClampNeg (M o 1).toNatClampNeg) a x (Int32.ofInt (-1)))
def sp99 : mv_Sp := fun As sh M Q => ∃ (a : Nat) (o : Nat) (x : Nat) (v : Nat), As = [.ref a, .ref o, .int (nI x), .int (nI v)] ∧ ((oS sh a) ∧ (oL sh o) ∧ (o + 6 < a) ∧ (gL M o) ∧ (x < 4096) ∧ (sT M a) ∧ (v < 2147483648)) ∧ Q (some (.int (skM M a o x v).1)) (sh) ((skM M a o x v).2)
theorem cl99 {S : Nat → mv_Sp} (hS : S 99 = sp99) {sh : mv_Shp} {M : mv_Mem} {a : Nat} {o : Nat} {x : Nat} {v : Nat} (p1 : oS sh a) (p2 : oL sh o) (p3 : o + 6 < a) (p4 : gL M o) (p5 : x < 4096) (p6 : sT M a) (p7 : v < 2147483648) {K : mv_Kt} {pc : Nat} {L : mv_Loc} {st : List Value} {cc_ ss_ : Nat} : mv_kal S 99 [.ref a, .ref o, .int (nI x), .int (nI v)] sh M K pc L st cc_ ss_ = K pc L ((some (.int (skM M a o x v).1) : Option Value).toList ++ st) (sh) ((skM M a o x v).2) cc_ ss_ := by
  refine q_kal (fun F => q_cali (fun Q => ?_))
  rw [hS]
  constructor
  · rintro ⟨a', o', x', v', hE, ⟨zp1, zp2, zp3, zp4, zp5, zp6, zp7⟩, hQ⟩
    simp only [List.cons.injEq, Value.ref.injEq, Value.int.injEq, Value.long.injEq, and_true, true_and] at hE
    obtain ⟨rfl, rfl, e_x, e_v⟩ := hE
    have z_x := nI_inj e_x (by omega) (by omega)
    subst z_x
    have z_v := nI_inj e_v (by omega) (by omega)
    subst z_v
    exact hQ
  · intro hQ
    exact ⟨a, o, x, v, rfl, ⟨p1, p2, p3, p4, p5, p6, p7⟩, hQ⟩
theorem ct99 {S : Nat → mv_Sp} (h74 : S 74 = sp74) (h81 : S 81 = sp81) (h82 : S 82 = sp82) (h83 : S 83 = sp83) (h84 : S 84 = sp84) : ∀ As sh M P, sp99 As sh M P → (mv_al0 As).length ≤ 8 ∧ mr99 S P 0 (mv_ent As 8) [] sh M 0 0 := by
  rintro As sh M P ⟨a, o, x, v, rfl, ⟨p1, p2, p3, p4, p5, p6, p7⟩, hQ⟩
  refine ⟨Nat.le_of_ble_eq_true rfl, ?_⟩
  show mr99 S P 0 [some (.ref a), some (.ref o), some (.int (nI x)), some (.int (nI v)), none, none, none, none] [] sh M 0 0
  obtain ⟨nT, h6, hT⟩ := p4.1
  obtain ⟨nP, h7, hP⟩ := p4.2.1
  have g0 := p4.1
  have g1 := p4.2.1
  have g4 := p4.2.2.2.2.1
  unfold skM at hQ
  rw [hT, hP, q_cl (show nT < 2147483648 by omega), q_cl (show nP < 2147483648 by omega)] at hQ
  simp (disch := first | assumption | omega) only [e99_0, e99_1, e99_2, e99_5, e99_7, e99_8, e99_9, e99_10, e99_13, e99_14, q_gv0, q_gvs, q_isI1, q_isA1, q_hs0, q_hsn, q_hsi, q_hsr, q_hss, q_inc1, List.set_cons_zero, List.set_cons_succ, ↓reduceIte, q_ss0, q_ssi, q_ssr, q_nr0, q_nr10, q_nr11, q_tlS, q_tlN, q_cl, q_let, q_lef, q_ltt, q_ltf, q_eqt, q_eqf, q_add, q_mul, Nat.reduceAdd, Nat.reduceLeDiff, Nat.reduceEqDiff, eq_self, Nat.zero_le, Nat.le_refl, not_false_eq_true, not_true_eq_false, true_and, and_true, and_self, if_true, if_false, p1.o, cl81 h81, cl83 h83, hT, hP]
  exact lp99 h74 h82 h84 p1 p2 p3 (show 2 * nP < 13 by omega) p7 4096 0 _ none none rfl (sL_sl (sT_ts p6 h6 nP) p5) (gL_sl (gL_ts p4 p3) p3) hQ
