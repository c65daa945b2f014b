/-! the marks led on, led back -/
def moM (M : mv_Mem) (a : Nat) : mv_Mem := fiM (mv_wr M (a + 1) (va_cpy (M (a + 2)) (M (a + 1)) 0 0 4096)) (a + 2) (nI 0) 4096
def goI (a i : Nat) : Nat → Nat → mv_Mem → mv_Mem
  | 0, _, M => M
  | n + 1, s, M => if M (a + 1) i ≤ nI 0 then M else goI a i n (s + 1) (mv_up M (a + 2) (adN i (M (a + 3) s).toNatClampNeg) (M (a + 2) (adN i (M (a + 3) s).toNatClampNeg) + M (a + 1) i))
def goF (a N : Nat) : Nat → Nat → mv_Mem → mv_Mem
  | 0, _, M => M
  | n + 1, i, M => goF a N n (i + 1) (goI a i N 0 M)
def goM (M : mv_Mem) (a N : Nat) : mv_Mem := goF a N 4096 0 (moM M a)
theorem sT_up {M : mv_Mem} {a j : Nat} {x : Int32} (h : sT M a) : sT (mv_up M (a + 2) j x) a := by
  intro i hi
  rw [q_upO (by omega)]
  exact h i hi
theorem sT_goI {a i : Nat} : ∀ n s (M : mv_Mem), sT M a → sT (goI a i n s M) a
  | 0, _, _, h => h
  | n + 1, s, M, h => by
    unfold goI
    split
    · exact h
    · exact sT_goI n _ _ (sT_up h)
theorem lp134i {S : Nat → mv_Sp} (h84 : S 84 = sp84) {sh : mv_Shp} {P : mv_Post} {a i N : Nat} (p1 : oS sh a) (hi : i < 4096) (hN : N < 13) :
    ∀ n s (M : mv_Mem) z, s + n = N → sT M a → (∀ s' z', mr134 S P 92 [some (.ref a), some (.int (nI N)), some (.int (nI i)), s', z'] [] sh (goI a i n s M) 0 0) →
      mr134 S P 35 [some (.ref a), some (.int (nI N)), some (.int (nI i)), some (.int (nI s)), z] [] sh M 0 0
  | 0, s, M, z, h, hM, hQ => by
    obtain rfl : s = N := by omega
    rw [e134_35]
    simp (disch := first | assumption | omega) only [e134_0, e134_1, e134_4, e134_5, e134_6, e134_9, e134_10, e134_13, e134_16, e134_17, e134_20, e134_21, e134_24, e134_25, e134_26, e134_27, e134_30, e134_33, e134_34, e134_36, e134_37, e134_40, e134_41, e134_44, e134_45, e134_46, e134_49, e134_50, e134_51, e134_52, e134_55, e134_57, e134_59, e134_62, e134_64, e134_67, e134_70, e134_71, e134_74, e134_76, e134_76q, e134_76r, e134_76rq, e134_77, e134_78, e134_79, e134_82, e134_83, e134_84, e134_85, e134_86, e134_89, e134_95, e134_98, q_gv0, q_gvs, q_isI1, q_isA1, q_hs0, q_hsn, q_hsi, q_hsr, q_hss, q_inc1, List.set_cons_zero, List.set_cons_succ, ↓reduceIte, q_ss0, q_ssi, q_ssr, q_nr0, q_nr10, q_nr11, q_tlS, q_tlN, q_cl, q_let, q_lef, q_ltt, q_ltf, q_eqt, q_eqf, q_add, q_mul, Nat.reduceAdd, Nat.reduceLeDiff, Nat.reduceEqDiff, eq_self, Nat.zero_le, Nat.le_refl, not_false_eq_true, not_true_eq_false, true_and, and_true, and_self, if_true, if_false]
    exact hQ _ _
  | n + 1, s, M, z, h, hM, hQ => by
    obtain ⟨e, he, hE⟩ := hM s (by omega)
    have b1 := adN_lt i e
    unfold goI at hQ
    rw [e134_35]
    by_cases c : M (a + 1) i ≤ nI 0
    · rw [if_pos c] at hQ
      simp (disch := first | assumption | omega) only [e134_0, e134_1, e134_4, e134_5, e134_6, e134_9, e134_10, e134_13, e134_16, e134_17, e134_20, e134_21, e134_24, e134_25, e134_26, e134_27, e134_30, e134_33, e134_34, e134_36, e134_37, e134_40, e134_41, e134_44, e134_45, e134_46, e134_49, e134_50, e134_51, e134_52, e134_55, e134_57, e134_59, e134_62, e134_64, e134_67, e134_70, e134_71, e134_74, e134_76, e134_76q, e134_76r, e134_76rq, e134_77, e134_78, e134_79, e134_82, e134_83, e134_84, e134_85, e134_86, e134_89, e134_95, e134_98, q_gv0, q_gvs, q_isI1, q_isA1, q_hs0, q_hsn, q_hsi, q_hsr, q_hss, q_inc1, List.set_cons_zero, List.set_cons_succ, ↓reduceIte, q_ss0, q_ssi, q_ssr, q_nr0, q_nr10, q_nr11, q_tlS, q_tlN, q_cl, q_let, q_lef, q_ltt, q_ltf, q_eqt, q_eqf, q_add, q_mul, Nat.reduceAdd, Nat.reduceLeDiff, Nat.reduceEqDiff, eq_self, Nat.zero_le, Nat.le_refl, not_false_eq_true, not_true_eq_false, true_and, and_true, and_self, if_true, if_false, p1.g0, p1.l1, c]
      exact hQ _ _
    · rw [if_neg c, hE, q_cl (show e < 2147483648 by omega)] at hQ
      simp (disch := first | assumption | omega) only [e134_0, e134_1, e134_4, e134_5, e134_6, e134_9, e134_10, e134_13, e134_16, e134_17, e134_20, e134_21, e134_24, e134_25, e134_26, e134_27, e134_30, e134_33, e134_34, e134_36, e134_37, e134_40, e134_41, e134_44, e134_45, e134_46, e134_49, e134_50, e134_51, e134_52, e134_55, e134_57, e134_59, e134_62, e134_64, e134_67, e134_70, e134_71, e134_74, e134_76, e134_76q, e134_76r, e134_76rq, e134_77, e134_78, e134_79, e134_82, e134_83, e134_84, e134_85, e134_86, e134_89, e134_95, e134_98, q_gv0, q_gvs, q_isI1, q_isA1, q_hs0, q_hsn, q_hsi, q_hsr, q_hss, q_inc1, List.set_cons_zero, List.set_cons_succ, ↓reduceIte, q_ss0, q_ssi, q_ssr, q_nr0, q_nr10, q_nr11, q_tlS, q_tlN, q_cl, q_let, q_lef, q_ltt, q_ltf, q_eqt, q_eqf, q_add, q_mul, Nat.reduceAdd, Nat.reduceLeDiff, Nat.reduceEqDiff, eq_self, Nat.zero_le, Nat.le_refl, not_false_eq_true, not_true_eq_false, true_and, and_true, and_self, if_true, if_false, e134_76q, p1.g0, p1.g1, p1.l1, p1.l2, p1.s2, p1.o, c, cl84 h84, hE, adT_N]
      exact lp134i h84 p1 hi hN n (s + 1) _ _ (by omega) (sT_up hM) hQ
theorem lp134o {S : Nat → mv_Sp} (h84 : S 84 = sp84) {sh : mv_Shp} {P : mv_Post} {a N : Nat} (p1 : oS sh a) (hN : N < 13) :
    ∀ n i (M : mv_Mem) y z, i + n = 4096 → sT M a → P none sh (goF a N n i M) →
      mr134 S P 26 [some (.ref a), some (.int (nI N)), some (.int (nI i)), y, z] [] sh M 0 0
  | 0, i, M, y, z, h, hM, hQ => by
    obtain rfl : i = 4096 := by omega
    rw [e134_26]
    simp (disch := first | assumption | omega) only [e134_0, e134_1, e134_4, e134_5, e134_6, e134_9, e134_10, e134_13, e134_16, e134_17, e134_20, e134_21, e134_24, e134_25, e134_27, e134_30, e134_33, e134_34, e134_36, e134_37, e134_40, e134_41, e134_44, e134_45, e134_46, e134_49, e134_50, e134_51, e134_52, e134_55, e134_57, e134_59, e134_62, e134_64, e134_67, e134_70, e134_71, e134_74, e134_76, e134_76q, e134_76r, e134_76rq, e134_77, e134_78, e134_79, e134_82, e134_83, e134_84, e134_85, e134_86, e134_89, e134_92, e134_95, e134_98, q_gv0, q_gvs, q_isI1, q_isA1, q_hs0, q_hsn, q_hsi, q_hsr, q_hss, q_inc1, List.set_cons_zero, List.set_cons_succ, ↓reduceIte, q_ss0, q_ssi, q_ssr, q_nr0, q_nr10, q_nr11, q_tlS, q_tlN, q_cl, q_let, q_lef, q_ltt, q_ltf, q_eqt, q_eqf, q_add, q_mul, Nat.reduceAdd, Nat.reduceLeDiff, Nat.reduceEqDiff, eq_self, Nat.zero_le, Nat.le_refl, not_false_eq_true, not_true_eq_false, true_and, and_true, and_self, if_true, if_false]
    exact hQ
  | n + 1, i, M, y, z, h, hM, hQ => by
    unfold goF at hQ
    rw [e134_26]
    simp (disch := first | assumption | omega) only [e134_0, e134_1, e134_4, e134_5, e134_6, e134_9, e134_10, e134_13, e134_16, e134_17, e134_20, e134_21, e134_24, e134_25, e134_27, e134_30, e134_33, e134_34, e134_36, e134_37, e134_40, e134_41, e134_44, e134_45, e134_46, e134_49, e134_50, e134_51, e134_52, e134_55, e134_57, e134_59, e134_62, e134_64, e134_67, e134_70, e134_71, e134_74, e134_76, e134_76q, e134_76r, e134_76rq, e134_77, e134_78, e134_79, e134_82, e134_83, e134_84, e134_85, e134_86, e134_89, e134_92, e134_95, e134_98, q_gv0, q_gvs, q_isI1, q_isA1, q_hs0, q_hsn, q_hsi, q_hsr, q_hss, q_inc1, List.set_cons_zero, List.set_cons_succ, ↓reduceIte, q_ss0, q_ssi, q_ssr, q_nr0, q_nr10, q_nr11, q_tlS, q_tlN, q_cl, q_let, q_lef, q_ltt, q_ltf, q_eqt, q_eqf, q_add, q_mul, Nat.reduceAdd, Nat.reduceLeDiff, Nat.reduceEqDiff, eq_self, Nat.zero_le, Nat.le_refl, not_false_eq_true, not_true_eq_false, true_and, and_true, and_self, if_true, if_false]
    refine lp134i h84 p1 (show i < 4096 by omega) hN N 0 M _ (by omega) hM (fun s' z' => ?_)
    simp (disch := first | assumption | omega) only [e134_0, e134_1, e134_4, e134_5, e134_6, e134_9, e134_10, e134_13, e134_16, e134_17, e134_20, e134_21, e134_24, e134_25, e134_27, e134_30, e134_33, e134_34, e134_36, e134_37, e134_40, e134_41, e134_44, e134_45, e134_46, e134_49, e134_50, e134_51, e134_52, e134_55, e134_57, e134_59, e134_62, e134_64, e134_67, e134_70, e134_71, e134_74, e134_76, e134_76q, e134_76r, e134_76rq, e134_77, e134_78, e134_79, e134_82, e134_83, e134_84, e134_85, e134_86, e134_89, e134_92, e134_95, e134_98, q_gv0, q_gvs, q_isI1, q_isA1, q_hs0, q_hsn, q_hsi, q_hsr, q_hss, q_inc1, List.set_cons_zero, List.set_cons_succ, ↓reduceIte, q_ss0, q_ssi, q_ssr, q_nr0, q_nr10, q_nr11, q_tlS, q_tlN, q_cl, q_let, q_lef, q_ltt, q_ltf, q_eqt, q_eqf, q_add, q_mul, Nat.reduceAdd, Nat.reduceLeDiff, Nat.reduceEqDiff, eq_self, Nat.zero_le, Nat.le_refl, not_false_eq_true, not_true_eq_false, true_and, and_true, and_self, if_true, if_false]
    exact lp134o h84 p1 hN n (i + 1) _ _ _ (by omega) (sT_goI _ _ _ hM) hQ
theorem sT_mo {M : mv_Mem} {a : Nat} (h : sT M a) : sT (moM M a) a := by
  intro i hi
  unfold moM
  rw [fiM_out (by omega), q_wrO (by omega)]
  exact h i hi
def sp134 : mv_Sp := fun As sh M Q => ∃ (a : Nat) (N : Nat), As = [.ref a, .int (nI N)] ∧ ((oS sh a) ∧ (N < 13) ∧ (sT M a)) ∧ Q (none) (sh) (goM M a N)
theorem cl134 {S : Nat → mv_Sp} (hS : S 134 = sp134) {sh : mv_Shp} {M : mv_Mem} {a : Nat} {N : Nat} (p1 : oS sh a) (p2 : N < 13) (p3 : sT M a) {K : mv_Kt} {pc : Nat} {L : mv_Loc} {st : List Value} {cc_ ss_ : Nat} : mv_kal S 134 [.ref a, .int (nI N)] sh M K pc L st cc_ ss_ = K pc L ((none : Option Value).toList ++ st) (sh) (goM M a N) cc_ ss_ := by
  refine q_kal (fun F => q_cali (fun Q => ?_))
  rw [hS]
  constructor
  · rintro ⟨a', N', hE, ⟨zp1, zp2, zp3⟩, hQ⟩
    simp only [List.cons.injEq, Value.ref.injEq, Value.int.injEq, Value.long.injEq, and_true, true_and] at hE
    obtain ⟨rfl, e_N⟩ := hE
    have z_N := nI_inj e_N (by omega) (by omega)
    subst z_N
    exact hQ
  · intro hQ
    exact ⟨a, N, rfl, ⟨p1, p2, p3⟩, hQ⟩
theorem ct134 {S : Nat → mv_Sp} (h42 : S 42 = sp42) (h84 : S 84 = sp84) : ∀ As sh M P, sp134 As sh M P → (mv_al0 As).length ≤ 5 ∧ mr134 S P 0 (mv_ent As 5) [] sh M 0 0 := by
  rintro As sh M P ⟨a, N, rfl, ⟨p1, p2, p3⟩, hQ⟩
  refine ⟨Nat.le_of_ble_eq_true rfl, ?_⟩
  show mr134 S P 0 [some (.ref a), some (.int (nI N)), none, none, none] [] sh M 0 0
  have z1 := p1.z2
  have e1 : lnS sh (a + 2) = 4096 := lnS_of z1
  have z2 : sh[a + 2]? = some (.inl (0, lnS sh (a + 2))) := by rw [e1]; exact z1
  have z3 : lnS sh (a + 2) < 100000 := by rw [e1]; decide
  have e2 : fiM (mv_wr M (a + 1) (va_cpy (M (a + 2)) (M (a + 1)) 0 0 4096)) (a + 2) (nI 0) 4096 = moM M a := rfl
  unfold goM at hQ
  simp (disch := first | assumption | omega) only [e134_0, e134_1, e134_4, e134_5, e134_6, e134_9, e134_10, e134_13, e134_16, e134_17, e134_20, e134_21, e134_24, e134_25, q_gv0, q_gvs, q_isI1, q_isA1, q_hs0, q_hsn, q_hsi, q_hsr, q_hss, q_inc1, List.set_cons_zero, List.set_cons_succ, ↓reduceIte, q_ss0, q_ssi, q_ssr, q_nr0, q_nr10, q_nr11, q_tlS, q_tlN, q_cl, q_let, q_lef, q_ltt, q_ltf, q_eqt, q_eqf, q_add, q_mul, Nat.reduceAdd, Nat.reduceLeDiff, Nat.reduceEqDiff, eq_self, Nat.zero_le, Nat.le_refl, not_false_eq_true, not_true_eq_false, true_and, and_true, and_self, if_true, if_false, p1.g0, p1.g1, q_kcp p1.z2 p1.z1, cl42 h42, e1, e2]
  exact lp134o h84 p1 p2 4096 0 _ none none rfl (sT_mo p3) hQ

def gbI (a i : Nat) : Nat → Nat → mv_Mem → mv_Mem
  | 0, _, M => M
  | n + 1, s, M => if M (a + 1) i ≤ nI 0 then M else gbI a i n (s + 1) (mv_up M (a + 2) (adN (adN (adN i (M (a + 3) s).toNatClampNeg) (M (a + 3) s).toNatClampNeg) (M (a + 3) s).toNatClampNeg) (nI 1))
def gbF (a N : Nat) : Nat → Nat → mv_Mem → mv_Mem
  | 0, _, M => M
  | n + 1, i, M => gbF a N n (i + 1) (gbI a i N 0 M)
def gbM (M : mv_Mem) (a N : Nat) : mv_Mem := gbF a N 4096 0 (moM M a)
theorem sT_gbI {a i : Nat} : ∀ n s (M : mv_Mem), sT M a → sT (gbI a i n s M) a
  | 0, _, _, h => h
  | n + 1, s, M, h => by
    unfold gbI
    split
    · exact h
    · exact sT_gbI n _ _ (sT_up h)
theorem lp112i {S : Nat → mv_Sp} (h84 : S 84 = sp84) {sh : mv_Shp} {P : mv_Post} {a i N : Nat} (p1 : oS sh a) (hi : i < 4096) (hN : N < 13) :
    ∀ n s (M : mv_Mem) z, s + n = N → sT M a → (∀ s' z', mr112 S P 94 [some (.ref a), some (.int (nI N)), some (.int (nI i)), s', z'] [] sh (gbI a i n s M) 0 0) →
      mr112 S P 35 [some (.ref a), some (.int (nI N)), some (.int (nI i)), some (.int (nI s)), z] [] sh M 0 0
  | 0, s, M, z, h, hM, hQ => by
    obtain rfl : s = N := by omega
    rw [e112_35]
    simp (disch := first | assumption | omega) only [e112_0, e112_1, e112_4, e112_5, e112_6, e112_9, e112_10, e112_13, e112_16, e112_17, e112_20, e112_21, e112_24, e112_25, e112_26, e112_27, e112_30, e112_33, e112_34, e112_36, e112_37, e112_40, e112_41, e112_44, e112_45, e112_46, e112_49, e112_50, e112_51, e112_52, e112_53, e112_54, e112_57, e112_58, e112_61, e112_62, e112_65, e112_67, e112_69, e112_72, e112_74, e112_77, e112_80, e112_81, e112_84, e112_86, e112_87, e112_88, e112_91, e112_97, e112_100, q_gv0, q_gvs, q_isI1, q_isA1, q_hs0, q_hsn, q_hsi, q_hsr, q_hss, q_inc1, List.set_cons_zero, List.set_cons_succ, ↓reduceIte, q_ss0, q_ssi, q_ssr, q_nr0, q_nr10, q_nr11, q_tlS, q_tlN, q_cl, q_let, q_lef, q_ltt, q_ltf, q_eqt, q_eqf, q_add, q_mul, Nat.reduceAdd, Nat.reduceLeDiff, Nat.reduceEqDiff, eq_self, Nat.zero_le, Nat.le_refl, not_false_eq_true, not_true_eq_false, true_and, and_true, and_self, if_true, if_false]
    exact hQ _ _
  | n + 1, s, M, z, h, hM, hQ => by
    obtain ⟨e, he, hE⟩ := hM s (by omega)
    have b1 := adN_lt i e
    have b2 := adN_lt (adN i e) e
    have b3 := adN_lt (adN (adN i e) e) e
    unfold gbI at hQ
    rw [e112_35]
    by_cases c : M (a + 1) i ≤ nI 0
    · rw [if_pos c] at hQ
      simp (disch := first | assumption | omega) only [e112_0, e112_1, e112_4, e112_5, e112_6, e112_9, e112_10, e112_13, e112_16, e112_17, e112_20, e112_21, e112_24, e112_25, e112_26, e112_27, e112_30, e112_33, e112_34, e112_36, e112_37, e112_40, e112_41, e112_44, e112_45, e112_46, e112_49, e112_50, e112_51, e112_52, e112_53, e112_54, e112_57, e112_58, e112_61, e112_62, e112_65, e112_67, e112_69, e112_72, e112_74, e112_77, e112_80, e112_81, e112_84, e112_86, e112_87, e112_88, e112_91, e112_97, e112_100, q_gv0, q_gvs, q_isI1, q_isA1, q_hs0, q_hsn, q_hsi, q_hsr, q_hss, q_inc1, List.set_cons_zero, List.set_cons_succ, ↓reduceIte, q_ss0, q_ssi, q_ssr, q_nr0, q_nr10, q_nr11, q_tlS, q_tlN, q_cl, q_let, q_lef, q_ltt, q_ltf, q_eqt, q_eqf, q_add, q_mul, Nat.reduceAdd, Nat.reduceLeDiff, Nat.reduceEqDiff, eq_self, Nat.zero_le, Nat.le_refl, not_false_eq_true, not_true_eq_false, true_and, and_true, and_self, if_true, if_false, p1.g0, p1.l1, c]
      exact hQ _ _
    · rw [if_neg c, hE, q_cl (show e < 2147483648 by omega)] at hQ
      simp (disch := first | assumption | omega) only [e112_0, e112_1, e112_4, e112_5, e112_6, e112_9, e112_10, e112_13, e112_16, e112_17, e112_20, e112_21, e112_24, e112_25, e112_26, e112_27, e112_30, e112_33, e112_34, e112_36, e112_37, e112_40, e112_41, e112_44, e112_45, e112_46, e112_49, e112_50, e112_51, e112_52, e112_53, e112_54, e112_57, e112_58, e112_61, e112_62, e112_65, e112_67, e112_69, e112_72, e112_74, e112_77, e112_80, e112_81, e112_84, e112_86, e112_87, e112_88, e112_91, e112_97, e112_100, q_gv0, q_gvs, q_isI1, q_isA1, q_hs0, q_hsn, q_hsi, q_hsr, q_hss, q_inc1, List.set_cons_zero, List.set_cons_succ, ↓reduceIte, q_ss0, q_ssi, q_ssr, q_nr0, q_nr10, q_nr11, q_tlS, q_tlN, q_cl, q_let, q_lef, q_ltt, q_ltf, q_eqt, q_eqf, q_add, q_mul, Nat.reduceAdd, Nat.reduceLeDiff, Nat.reduceEqDiff, eq_self, Nat.zero_le, Nat.le_refl, not_false_eq_true, not_true_eq_false, true_and, and_true, and_self, if_true, if_false, p1.g0, p1.g1, p1.l1, p1.l2, p1.s2, p1.o, c, cl84 h84, hE, adT_N]
      exact lp112i h84 p1 hi hN n (s + 1) _ _ (by omega) (sT_up hM) hQ
theorem lp112o {S : Nat → mv_Sp} (h84 : S 84 = sp84) {sh : mv_Shp} {P : mv_Post} {a N : Nat} (p1 : oS sh a) (hN : N < 13) :
    ∀ n i (M : mv_Mem) y z, i + n = 4096 → sT M a → P none sh (gbF a N n i M) →
      mr112 S P 26 [some (.ref a), some (.int (nI N)), some (.int (nI i)), y, z] [] sh M 0 0
  | 0, i, M, y, z, h, hM, hQ => by
    obtain rfl : i = 4096 := by omega
    rw [e112_26]
    simp (disch := first | assumption | omega) only [e112_0, e112_1, e112_4, e112_5, e112_6, e112_9, e112_10, e112_13, e112_16, e112_17, e112_20, e112_21, e112_24, e112_25, e112_27, e112_30, e112_33, e112_34, e112_36, e112_37, e112_40, e112_41, e112_44, e112_45, e112_46, e112_49, e112_50, e112_51, e112_52, e112_53, e112_54, e112_57, e112_58, e112_61, e112_62, e112_65, e112_67, e112_69, e112_72, e112_74, e112_77, e112_80, e112_81, e112_84, e112_86, e112_87, e112_88, e112_91, e112_94, e112_97, e112_100, q_gv0, q_gvs, q_isI1, q_isA1, q_hs0, q_hsn, q_hsi, q_hsr, q_hss, q_inc1, List.set_cons_zero, List.set_cons_succ, ↓reduceIte, q_ss0, q_ssi, q_ssr, q_nr0, q_nr10, q_nr11, q_tlS, q_tlN, q_cl, q_let, q_lef, q_ltt, q_ltf, q_eqt, q_eqf, q_add, q_mul, Nat.reduceAdd, Nat.reduceLeDiff, Nat.reduceEqDiff, eq_self, Nat.zero_le, Nat.le_refl, not_false_eq_true, not_true_eq_false, true_and, and_true, and_self, if_true, if_false]
    exact hQ
  | n + 1, i, M, y, z, h, hM, hQ => by
    unfold gbF at hQ
    rw [e112_26]
    simp (disch := first | assumption | omega) only [e112_0, e112_1, e112_4, e112_5, e112_6, e112_9, e112_10, e112_13, e112_16, e112_17, e112_20, e112_21, e112_24, e112_25, e112_27, e112_30, e112_33, e112_34, e112_36, e112_37, e112_40, e112_41, e112_44, e112_45, e112_46, e112_49, e112_50, e112_51, e112_52, e112_53, e112_54, e112_57, e112_58, e112_61, e112_62, e112_65, e112_67, e112_69, e112_72, e112_74, e112_77, e112_80, e112_81, e112_84, e112_86, e112_87, e112_88, e112_91, e112_94, e112_97, e112_100, q_gv0, q_gvs, q_isI1, q_isA1, q_hs0, q_hsn, q_hsi, q_hsr, q_hss, q_inc1, List.set_cons_zero, List.set_cons_succ, ↓reduceIte, q_ss0, q_ssi, q_ssr, q_nr0, q_nr10, q_nr11, q_tlS, q_tlN, q_cl, q_let, q_lef, q_ltt, q_ltf, q_eqt, q_eqf, q_add, q_mul, Nat.reduceAdd, Nat.reduceLeDiff, Nat.reduceEqDiff, eq_self, Nat.zero_le, Nat.le_refl, not_false_eq_true, not_true_eq_false, true_and, and_true, and_self, if_true, if_false]
    refine lp112i h84 p1 (show i < 4096 by omega) hN N 0 M _ (by omega) hM (fun s' z' => ?_)
    simp (disch := first | assumption | omega) only [e112_0, e112_1, e112_4, e112_5, e112_6, e112_9, e112_10, e112_13, e112_16, e112_17, e112_20, e112_21, e112_24, e112_25, e112_27, e112_30, e112_33, e112_34, e112_36, e112_37, e112_40, e112_41, e112_44, e112_45, e112_46, e112_49, e112_50, e112_51, e112_52, e112_53, e112_54, e112_57, e112_58, e112_61, e112_62, e112_65, e112_67, e112_69, e112_72, e112_74, e112_77, e112_80, e112_81, e112_84, e112_86, e112_87, e112_88, e112_91, e112_94, e112_97, e112_100, q_gv0, q_gvs, q_isI1, q_isA1, q_hs0, q_hsn, q_hsi, q_hsr, q_hss, q_inc1, List.set_cons_zero, List.set_cons_succ, ↓reduceIte, q_ss0, q_ssi, q_ssr, q_nr0, q_nr10, q_nr11, q_tlS, q_tlN, q_cl, q_let, q_lef, q_ltt, q_ltf, q_eqt, q_eqf, q_add, q_mul, Nat.reduceAdd, Nat.reduceLeDiff, Nat.reduceEqDiff, eq_self, Nat.zero_le, Nat.le_refl, not_false_eq_true, not_true_eq_false, true_and, and_true, and_self, if_true, if_false]
    exact lp112o h84 p1 hN n (i + 1) _ _ _ (by omega) (sT_gbI _ _ _ hM) hQ
def sp112 : mv_Sp := fun As sh M Q => ∃ (a : Nat) (N : Nat), As = [.ref a, .int (nI N)] ∧ ((oS sh a) ∧ (N < 13) ∧ (sT M a)) ∧ Q (none) (sh) (gbM M a N)
theorem cl112 {S : Nat → mv_Sp} (hS : S 112 = sp112) {sh : mv_Shp} {M : mv_Mem} {a : Nat} {N : Nat} (p1 : oS sh a) (p2 : N < 13) (p3 : sT M a) {K : mv_Kt} {pc : Nat} {L : mv_Loc} {st : List Value} {cc_ ss_ : Nat} : mv_kal S 112 [.ref a, .int (nI N)] sh M K pc L st cc_ ss_ = K pc L ((none : Option Value).toList ++ st) (sh) (gbM M a N) cc_ ss_ := by
  refine q_kal (fun F => q_cali (fun Q => ?_))
  rw [hS]
  constructor
  · rintro ⟨a', N', hE, ⟨zp1, zp2, zp3⟩, hQ⟩
    simp only [List.cons.injEq, Value.ref.injEq, Value.int.injEq, Value.long.injEq, and_true, true_and] at hE
    obtain ⟨rfl, e_N⟩ := hE
    have z_N := nI_inj e_N (by omega) (by omega)
    subst z_N
    exact hQ
  · intro hQ
    exact ⟨a, N, rfl, ⟨p1, p2, p3⟩, hQ⟩
theorem ct112 {S : Nat → mv_Sp} (h42 : S 42 = sp42) (h84 : S 84 = sp84) : ∀ As sh M P, sp112 As sh M P → (mv_al0 As).length ≤ 5 ∧ mr112 S P 0 (mv_ent As 5) [] sh M 0 0 := by
  rintro As sh M P ⟨a, N, rfl, ⟨p1, p2, p3⟩, hQ⟩
  refine ⟨Nat.le_of_ble_eq_true rfl, ?_⟩
  show mr112 S P 0 [some (.ref a), some (.int (nI N)), none, none, none] [] sh M 0 0
  have z1 := p1.z2
  have e1 : lnS sh (a + 2) = 4096 := lnS_of z1
  have z2 : sh[a + 2]? = some (.inl (0, lnS sh (a + 2))) := by rw [e1]; exact z1
  have z3 : lnS sh (a + 2) < 100000 := by rw [e1]; decide
  have e2 : fiM (mv_wr M (a + 1) (va_cpy (M (a + 2)) (M (a + 1)) 0 0 4096)) (a + 2) (nI 0) 4096 = moM M a := rfl
  unfold gbM at hQ
  simp (disch := first | assumption | omega) only [e112_0, e112_1, e112_4, e112_5, e112_6, e112_9, e112_10, e112_13, e112_16, e112_17, e112_20, e112_21, e112_24, e112_25, q_gv0, q_gvs, q_isI1, q_isA1, q_hs0, q_hsn, q_hsi, q_hsr, q_hss, q_inc1, List.set_cons_zero, List.set_cons_succ, ↓reduceIte, q_ss0, q_ssi, q_ssr, q_nr0, q_nr10, q_nr11, q_tlS, q_tlN, q_cl, q_let, q_lef, q_ltt, q_ltf, q_eqt, q_eqf, q_add, q_mul, Nat.reduceAdd, Nat.reduceLeDiff, Nat.reduceEqDiff, eq_self, Nat.zero_le, Nat.le_refl, not_false_eq_true, not_true_eq_false, true_and, and_true, and_self, if_true, if_false, p1.g0, p1.g1, q_kcp p1.z2 p1.z1, cl42 h42, e1, e2]
  exact lp112o h84 p1 p2 4096 0 _ none none rfl (sT_mo p3) hQ
