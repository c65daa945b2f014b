/-! draws, bands, jams, slips -/
def drX (z k : Nat) : Nat := 7919 * z + 6151 * k + 1
def drN (z k : Nat) : Nat := drX z k * drX z k % 65521
theorem drX_lt {z k : Nat} (hz : z < 10000) (hk : k < 60) : drX z k < 100000000 := by unfold drX; omega
theorem drN_lt (z k : Nat) : drN z k < 65521 := Nat.mod_lt _ (by decide)
theorem q_rlN {a d : Nat} (ha : a < 9223372036854775808) (h0 : 0 < d) (hd : d < 9223372036854775808) : q_rl (lN a) (lN d) = lN (a % d) := pk_lRem ha h0 hd
theorem q_leqf {a b : Nat} (h : ¬ a = b) (ha : a < 9223372036854775808) (hb : b < 9223372036854775808) : (lN a = lN b) = False := eq_false (fun z => h ((pk_lEQ ha hb).mp z))
theorem q_i2l {n : Nat} (h : n < 2147483648) : (nI n).toInt64 = lN n := nI_l h
def sp77 : mv_Sp := fun As sh M Q => ∃ (z : Nat) (k : Nat), As = [.int (nI z), .int (nI k)] ∧ ((z < 10000) ∧ (k < 60)) ∧ Q (some (.int (nI (drN z k)))) (sh) (M)
theorem cl77 {S : Nat → mv_Sp} (hS : S 77 = sp77) {sh : mv_Shp} {M : mv_Mem} {z : Nat} {k : Nat} (p1 : z < 10000) (p2 : k < 60) {K : mv_Kt} {pc : Nat} {L : mv_Loc} {st : List Value} {cc_ ss_ : Nat} : mv_kal S 77 [.int (nI z), .int (nI k)] sh M K pc L st cc_ ss_ = K pc L ((some (.int (nI (drN z k))) : Option Value).toList ++ st) (sh) (M) cc_ ss_ := by
  refine q_kal (fun F => q_cali (fun Q => ?_))
  rw [hS]
  constructor
  · rintro ⟨z', k', hE, ⟨zp1, zp2⟩, hQ⟩
    simp only [List.cons.injEq, Value.ref.injEq, Value.int.injEq, Value.long.injEq, and_true, true_and] at hE
    obtain ⟨e_z, e_k⟩ := hE
    have z_z := nI_inj e_z (by omega) (by omega)
    subst z_z
    have z_k := nI_inj e_k (by omega) (by omega)
    subst z_k
    exact hQ
  · intro hQ
    exact ⟨z, k, rfl, ⟨p1, p2⟩, hQ⟩
theorem ct77 {S : Nat → mv_Sp}  : ∀ As sh M P, sp77 As sh M P → (mv_al0 As).length ≤ 4 ∧ mr77 S P 0 (mv_ent As 4) [] sh M 0 0 := by
  rintro As sh M P ⟨z, k, rfl, ⟨p1, p2⟩, hQ⟩
  refine ⟨Nat.le_of_ble_eq_true rfl, ?_⟩
  show mr77 S P 0 [some (.int (nI z)), some (.int (nI k)), none, none] [] sh M 0 0
  have hx := drX_lt p1 p2
  have e1 : lN 7919 * lN z + lN 6151 * lN k + lN 1 = lN (drX z k) := by rw [lN_mul, lN_mul, lN_add, lN_add]; rfl
  have hm : ∀ {a b : Option Value} {v : Value}, q_hm [some (.int (nI z)), some (.int (nI k)), a, b] 2 = True := fun {a b v} => eq_true ⟨by simp, fun j w hj => by
    obtain rfl : j = 1 := by omega
    simp⟩
  have hxx : drX z k * drX z k < 9223372036854775808 := by
    have := Nat.mul_le_mul (Nat.le_of_lt hx) (Nat.le_of_lt hx)
    omega
  have e2 : lN (drX z k) * lN (drX z k) = lN (drX z k * drX z k) := lN_mul _ _
  have e3 : lN (drX z k * drX z k % 65521) = lN (drN z k) := rfl
  have hm2 : q_hm [some (.int (nI z)), some (.int (nI k)), none, none] 2 = True := hm (v := .null)
  simp (disch := first | assumption | omega) only [e77_0, e77_3, e77_4, e77_5, e77_6, e77_9, e77_10, e77_11, e77_12, e77_13, e77_14, e77_15, e77_16, e77_17, e77_18, e77_19, e77_22, e77_23, e77_24, q_gv0, q_gvs, q_isI1, q_isA1, q_hs0, q_hsn, q_hsi, q_hsr, q_hss, q_inc1, List.set_cons_zero, List.set_cons_succ, ↓reduceIte, q_ss0, q_ssi, q_ssr, q_nr0, q_nr10, q_nr11, q_tlS, q_tlN, q_cl, q_let, q_lef, q_ltt, q_ltf, q_eqt, q_eqf, q_add, q_mul, Nat.reduceAdd, Nat.reduceLeDiff, Nat.reduceEqDiff, eq_self, Nat.zero_le, Nat.le_refl, not_false_eq_true, not_true_eq_false, true_and, and_true, and_self, if_true, if_false, q_isL1, q_i2l, e1, hm2, e2, q_rlN, q_leqf, e3, lN_i]
  exact hQ
/-- how many jam in a pick woven -/
def wjF (M : mv_Mem) (c a p w : Nat) : Nat := tjF (mv_wr M (c + 2) (va_cpy (M (c + 1)) (M (c + 2)) 0 ((M c 2).toNatClampNeg * 32 + 2) 30)) c a p w (M a 0).toNatClampNeg
theorem cr70 {S : Nat → mv_Sp} (h : S 70 = sp70) {sh : mv_Shp} {M : mv_Mem} {p w : Nat} {K : mv_Kt} {pc : Nat} {L : mv_Loc} {st : List Value} {cc ss : Nat} {c a : Nat} (p1 : oC sh c) (p2 : oL sh a) (p3 : p < 6) (p4 : w < 2) (p5 : a + 6 < c) (p6 : gL M a) (p7 : ∃ r, r < 24 ∧ M c 2 = nI r) :
    mv_kal S 70 [.ref c, .ref a, .int (nI p), .int (nI w)] sh M K pc L st cc ss = K pc L ((some (.int (nI (wjF M c a p w)))).toList ++ st) sh (wvM M c a p w) cc ss := cl70 h p1 p2 p3 p4 p5 p6 p7
/-- bands by draws, from the k-th on: woven, jams, the memory -/
def bdF (z : Nat) : Nat → Nat → mv_Mem → Nat → Nat → Nat × Nat × mv_Mem
  | 0, _, M, w, j => (w, j, M)
  | n + 1, k, M, w, j => if drN z k % 8 = 7 then bdF z n (k + 1) (mv_up M 21 2 (nI 0)) w j else if drN z k % 8 = 6 then bdF z n (k + 1) (cmM M (drN z k)) w j
    else if (M 21 2).toNatClampNeg < 24 ∧ 0 < (M 3 1).toNatClampNeg then bdF z n (k + 1) (wvM M 21 3 (drN z k / 8 % (M 3 1).toNatClampNeg) (drN z k / 64 % 2)) (w + 1) (j + wjF M 21 3 (drN z k / 8 % (M 3 1).toNatClampNeg) (drN z k / 64 % 2))
    else bdF z n (k + 1) M w j
theorem cr77 {S : Nat → mv_Sp} (h : S 77 = sp77) {sh : mv_Shp} {M : mv_Mem} {z k : Nat} {K : mv_Kt} {pc : Nat} {L : mv_Loc} {st : List Value} {c s : Nat} (hz : z < 10000) (hk : k < 60) :
    mv_kal S 77 [.int (nI z), .int (nI k)] sh M K pc L st c s = K pc L ((some (.int (nI (drN z k)))).toList ++ st) sh M c s := cl77 h hz hk
theorem cr78 {S : Nat → mv_Sp} (h : S 78 = sp78) {sh : mv_Shp} {M : mv_Mem} {d : Nat} {K : mv_Kt} {pc : Nat} {L : mv_Loc} {st : List Value} {c s : Nat} (p1 : oX sh) (p2 : ∃ n, n ≤ 6 ∧ M 3 0 = nI n) (hd : d < 65521) :
    mv_kal S 78 [.ref 0, .int (nI d)] sh M K pc L st c s = K pc L ((none : Option Value).toList ++ st) sh (cmM M d) c s := cl78 h p1 p2 (by omega)
theorem cmM_out {M : mv_Mem} {d b : Nat} (h : ¬ b = 22) : cmM M d b = M b := by
  unfold cmM
  split
  · rfl
  · exact q_upO h
theorem gL_up21 {M : mv_Mem} {b j : Nat} {v : Int32} (h : gL M 3) (hb : 9 < b) : gL (mv_up M b j v) 3 :=
  gL_of h (q_upO (by omega)) (q_upO (by omega)) (q_upO (by omega)) (q_upO (by omega)) (q_upO (by omega)) (q_upO (by omega)) (q_upO (by omega))
theorem gL_cm {M : mv_Mem} {d : Nat} (h : gL M 3) : gL (cmM M d) 3 :=
  gL_of h (cmM_out (by decide)) (cmM_out (by decide)) (cmM_out (by decide)) (cmM_out (by decide)) (cmM_out (by decide)) (cmM_out (by decide)) (cmM_out (by decide))
theorem lp79 {S : Nat → mv_Sp} (h70 : S 70 = sp70) (h77 : S 77 = sp77) (h78 : S 78 = sp78) {sh : mv_Shp} {P : mv_Post} {z N : Nat} {y : Int32} (p1 : oX sh) (hz : z < 10000) (hN : N < 61) :
    ∀ n k (M : mv_Mem) w j x, k + n = N → gL M 3 → (∃ r, r < 25 ∧ M 21 2 = nI r) → P (some (.int (if y = nI 0 then nI (bdF z n k M w j).1 else nI (bdF z n k M w j).2.1))) sh (bdF z n k M w j).2.2 →
      mr79 S P 53 [some (.ref 0), some (.int (nI z)), some (.int (nI N)), some (.int y), some (.int (nI w)), some (.int (nI j)), some (.int (nI k)), x] [] sh M 0 0
  | 0, k, M, w, j, x, h, hG, hR, hQ => by
    obtain rfl : k = N := by omega
    rw [e79_53]
    by_cases c : y = nI 0
    · rw [if_pos c] at hQ
      simp (disch := first | assumption | omega) only [e79_0, e79_1, e79_4, e79_5, e79_8, e79_11, e79_12, e79_13, e79_16, e79_17, e79_19, e79_22, e79_23, e79_26, e79_27, e79_28, e79_31, e79_32, e79_33, e79_34, e79_37, e79_38, e79_41, e79_44, e79_45, e79_47, e79_48, e79_50, e79_51, e79_55, e79_56, e79_59, e79_60, e79_62, e79_65, e79_67, e79_69, e79_71, e79_72, e79_74, e79_77, e79_78, e79_81, e79_82, e79_85, e79_88, e79_90, e79_92, e79_93, e79_95, e79_98, e79_99, e79_101, e79_104, e79_107, e79_108, e79_111, e79_114, e79_116, e79_119, e79_120, e79_123, e79_126, e79_129, e79_131, e79_132, e79_135, e79_136, e79_139, e79_141, e79_143, e79_144, e79_145, e79_148, e79_151, e79_152, e79_154, e79_156, e79_157, e79_158, e79_159, e79_162, e79_163, e79_165, e79_168, e79_171, e79_174, e79_175, e79_178, e79_180, e79_183, e79_185, q_gv0, q_gvs, q_isI1, q_isA1, q_hs0, q_hsn, q_hsi, q_hsr, q_hss, q_inc1, List.set_cons_zero, List.set_cons_succ, ↓reduceIte, q_ss0, q_ssi, q_ssr, q_nr0, q_nr10, q_nr11, q_tlS, q_tlN, q_cl, q_let, q_lef, q_ltt, q_ltf, q_eqt, q_eqf, q_add, q_mul, Nat.reduceAdd, Nat.reduceLeDiff, Nat.reduceEqDiff, eq_self, Nat.zero_le, Nat.le_refl, not_false_eq_true, not_true_eq_false, true_and, and_true, and_self, if_true, if_false, c]
      exact hQ
    · rw [if_neg c] at hQ
      simp (disch := first | assumption | omega) only [e79_0, e79_1, e79_4, e79_5, e79_8, e79_11, e79_12, e79_13, e79_16, e79_17, e79_19, e79_22, e79_23, e79_26, e79_27, e79_28, e79_31, e79_32, e79_33, e79_34, e79_37, e79_38, e79_41, e79_44, e79_45, e79_47, e79_48, e79_50, e79_51, e79_55, e79_56, e79_59, e79_60, e79_62, e79_65, e79_67, e79_69, e79_71, e79_72, e79_74, e79_77, e79_78, e79_81, e79_82, e79_85, e79_88, e79_90, e79_92, e79_93, e79_95, e79_98, e79_99, e79_101, e79_104, e79_107, e79_108, e79_111, e79_114, e79_116, e79_119, e79_120, e79_123, e79_126, e79_129, e79_131, e79_132, e79_135, e79_136, e79_139, e79_141, e79_143, e79_144, e79_145, e79_148, e79_151, e79_152, e79_154, e79_156, e79_157, e79_158, e79_159, e79_162, e79_163, e79_165, e79_168, e79_171, e79_174, e79_175, e79_178, e79_180, e79_183, e79_185, q_gv0, q_gvs, q_isI1, q_isA1, q_hs0, q_hsn, q_hsi, q_hsr, q_hss, q_inc1, List.set_cons_zero, List.set_cons_succ, ↓reduceIte, q_ss0, q_ssi, q_ssr, q_nr0, q_nr10, q_nr11, q_tlS, q_tlN, q_cl, q_let, q_lef, q_ltt, q_ltf, q_eqt, q_eqf, q_add, q_mul, Nat.reduceAdd, Nat.reduceLeDiff, Nat.reduceEqDiff, eq_self, Nat.zero_le, Nat.le_refl, not_false_eq_true, not_true_eq_false, true_and, and_true, and_self, if_true, if_false, c]
      exact hQ
  | n + 1, k, M, w, j, x, h, hG, hR, hQ => by
    have k60 : k < 60 := by omega
    have hd := drN_lt z k
    have g0 := hG.1
    have ht := p1.trial
    have hl := p1.loom
    obtain ⟨r, hr, hR2⟩ := id hR
    obtain ⟨p, hp, hP⟩ := hG.2.1
    unfold bdF at hQ
    rw [hR2, hP, q_cl (show r < 2147483648 by omega), q_cl (show p < 2147483648 by omega)] at hQ
    rw [e79_53]
    by_cases c1 : drN z k % 8 = 7
    · rw [if_pos c1] at hQ
      simp (disch := first | assumption | omega) only [e79_0, e79_1, e79_4, e79_5, e79_8, e79_11, e79_12, e79_13, e79_16, e79_17, e79_19, e79_22, e79_23, e79_26, e79_27, e79_28, e79_31, e79_32, e79_33, e79_34, e79_37, e79_38, e79_41, e79_44, e79_45, e79_47, e79_48, e79_50, e79_51, e79_55, e79_56, e79_59, e79_60, e79_62, e79_65, e79_67, e79_69, e79_71, e79_72, e79_74, e79_77, e79_78, e79_81, e79_82, e79_85, e79_88, e79_90, e79_92, e79_93, e79_95, e79_98, e79_99, e79_101, e79_104, e79_107, e79_108, e79_111, e79_114, e79_116, e79_119, e79_120, e79_123, e79_126, e79_129, e79_131, e79_132, e79_135, e79_136, e79_139, e79_141, e79_143, e79_144, e79_145, e79_148, e79_151, e79_152, e79_154, e79_156, e79_157, e79_158, e79_159, e79_162, e79_163, e79_165, e79_168, e79_171, e79_174, e79_175, e79_178, e79_180, e79_183, e79_185, q_gv0, q_gvs, q_isI1, q_isA1, q_hs0, q_hsn, q_hsi, q_hsr, q_hss, q_inc1, List.set_cons_zero, List.set_cons_succ, ↓reduceIte, q_ss0, q_ssi, q_ssr, q_nr0, q_nr10, q_nr11, q_tlS, q_tlN, q_cl, q_let, q_lef, q_ltt, q_ltf, q_eqt, q_eqf, q_add, q_mul, Nat.reduceAdd, Nat.reduceLeDiff, Nat.reduceEqDiff, eq_self, Nat.zero_le, Nat.le_refl, not_false_eq_true, not_true_eq_false, true_and, and_true, and_self, if_true, if_false, p1.g4, ht.p2, cr77 h77, q_rem, c1]
      exact lp79 h70 h77 h78 p1 hz hN n (k + 1) _ w j _ (by omega) (gL_up21 hG (by decide)) ⟨0, by decide, q_upS⟩ hQ
    rw [if_neg c1] at hQ
    by_cases c2 : drN z k % 8 = 6
    · rw [if_pos c2] at hQ
      simp (disch := first | assumption | omega) only [e79_0, e79_1, e79_4, e79_5, e79_8, e79_11, e79_12, e79_13, e79_16, e79_17, e79_19, e79_22, e79_23, e79_26, e79_27, e79_28, e79_31, e79_32, e79_33, e79_34, e79_37, e79_38, e79_41, e79_44, e79_45, e79_47, e79_48, e79_50, e79_51, e79_55, e79_56, e79_59, e79_60, e79_62, e79_65, e79_67, e79_69, e79_71, e79_72, e79_74, e79_77, e79_78, e79_81, e79_82, e79_85, e79_88, e79_90, e79_92, e79_93, e79_95, e79_98, e79_99, e79_101, e79_104, e79_107, e79_108, e79_111, e79_114, e79_116, e79_119, e79_120, e79_123, e79_126, e79_129, e79_131, e79_132, e79_135, e79_136, e79_139, e79_141, e79_143, e79_144, e79_145, e79_148, e79_151, e79_152, e79_154, e79_156, e79_157, e79_158, e79_159, e79_162, e79_163, e79_165, e79_168, e79_171, e79_174, e79_175, e79_178, e79_180, e79_183, e79_185, q_gv0, q_gvs, q_isI1, q_isA1, q_hs0, q_hsn, q_hsi, q_hsr, q_hss, q_inc1, List.set_cons_zero, List.set_cons_succ, ↓reduceIte, q_ss0, q_ssi, q_ssr, q_nr0, q_nr10, q_nr11, q_tlS, q_tlN, q_cl, q_let, q_lef, q_ltt, q_ltf, q_eqt, q_eqf, q_add, q_mul, Nat.reduceAdd, Nat.reduceLeDiff, Nat.reduceEqDiff, eq_self, Nat.zero_le, Nat.le_refl, not_false_eq_true, not_true_eq_false, true_and, and_true, and_self, if_true, if_false, p1.o, cr77 h77, cr78 h78, q_rem, c2]
      exact lp79 h70 h77 h78 p1 hz hN n (k + 1) _ w j _ (by omega) (gL_cm hG) ⟨r, hr, by rw [cmM_out (by decide)]; exact hR2⟩ hQ
    rw [if_neg c2] at hQ
    by_cases c3 : r < 24 ∧ 0 < p
    · rw [if_pos c3] at hQ
      obtain ⟨c4, c5⟩ := c3
      have d1 : drN z k / 8 % p < 6 := by
        have := Nat.mod_lt (drN z k / 8) c5
        omega
      have d2 : drN z k / 64 % 2 < 2 := Nat.mod_lt _ (by decide)
      have r24 : ∃ r, r < 24 ∧ M 21 2 = nI r := ⟨r, c4, hR2⟩
      have b21 : 3 + 6 < 21 := by decide
      simp (disch := first | assumption | omega) only [e79_0, e79_1, e79_4, e79_5, e79_8, e79_11, e79_12, e79_13, e79_16, e79_17, e79_19, e79_22, e79_23, e79_26, e79_27, e79_28, e79_31, e79_32, e79_33, e79_34, e79_37, e79_38, e79_41, e79_44, e79_45, e79_47, e79_48, e79_50, e79_51, e79_55, e79_56, e79_59, e79_60, e79_62, e79_65, e79_67, e79_69, e79_71, e79_72, e79_74, e79_77, e79_78, e79_81, e79_82, e79_85, e79_88, e79_90, e79_92, e79_93, e79_95, e79_98, e79_99, e79_101, e79_104, e79_107, e79_108, e79_111, e79_114, e79_116, e79_119, e79_120, e79_123, e79_126, e79_129, e79_131, e79_132, e79_135, e79_136, e79_139, e79_141, e79_143, e79_144, e79_145, e79_148, e79_151, e79_152, e79_154, e79_156, e79_157, e79_158, e79_159, e79_162, e79_163, e79_165, e79_168, e79_171, e79_174, e79_175, e79_178, e79_180, e79_183, e79_185, q_gv0, q_gvs, q_isI1, q_isA1, q_hs0, q_hsn, q_hsi, q_hsr, q_hss, q_inc1, List.set_cons_zero, List.set_cons_succ, ↓reduceIte, q_ss0, q_ssi, q_ssr, q_nr0, q_nr10, q_nr11, q_tlS, q_tlN, q_cl, q_let, q_lef, q_ltt, q_ltf, q_eqt, q_eqf, q_add, q_mul, Nat.reduceAdd, Nat.reduceLeDiff, Nat.reduceEqDiff, eq_self, Nat.zero_le, Nat.le_refl, not_false_eq_true, not_true_eq_false, true_and, and_true, and_self, if_true, if_false, p1.g1, p1.g4, ht.g2, hl.g1, ht.o, hl.o, cr77 h77, q_rem, q_div, c1, c2, hR2, hP, cr70 h70]
      exact lp79 h70 h77 h78 p1 hz hN n (k + 1) _ (w + 1) _ _ (by omega) (gL_wv hG (by decide)) ⟨r + 1, by omega, by rw [wvM_row, hR2, q_cl (by omega)]⟩ hQ
    · rw [if_neg c3] at hQ
      by_cases c4 : r < 24
      · have c5 : p = 0 := by
          rcases Nat.eq_zero_or_pos p with h | h
          · exact h
          · exact absurd ⟨c4, h⟩ c3
        subst c5
        simp (disch := first | assumption | omega) only [e79_0, e79_1, e79_4, e79_5, e79_8, e79_11, e79_12, e79_13, e79_16, e79_17, e79_19, e79_22, e79_23, e79_26, e79_27, e79_28, e79_31, e79_32, e79_33, e79_34, e79_37, e79_38, e79_41, e79_44, e79_45, e79_47, e79_48, e79_50, e79_51, e79_55, e79_56, e79_59, e79_60, e79_62, e79_65, e79_67, e79_69, e79_71, e79_72, e79_74, e79_77, e79_78, e79_81, e79_82, e79_85, e79_88, e79_90, e79_92, e79_93, e79_95, e79_98, e79_99, e79_101, e79_104, e79_107, e79_108, e79_111, e79_114, e79_116, e79_119, e79_120, e79_123, e79_126, e79_129, e79_131, e79_132, e79_135, e79_136, e79_139, e79_141, e79_143, e79_144, e79_145, e79_148, e79_151, e79_152, e79_154, e79_156, e79_157, e79_158, e79_159, e79_162, e79_163, e79_165, e79_168, e79_171, e79_174, e79_175, e79_178, e79_180, e79_183, e79_185, q_gv0, q_gvs, q_isI1, q_isA1, q_hs0, q_hsn, q_hsi, q_hsr, q_hss, q_inc1, List.set_cons_zero, List.set_cons_succ, ↓reduceIte, q_ss0, q_ssi, q_ssr, q_nr0, q_nr10, q_nr11, q_tlS, q_tlN, q_cl, q_let, q_lef, q_ltt, q_ltf, q_eqt, q_eqf, q_add, q_mul, Nat.reduceAdd, Nat.reduceLeDiff, Nat.reduceEqDiff, eq_self, Nat.zero_le, Nat.le_refl, not_false_eq_true, not_true_eq_false, true_and, and_true, and_self, if_true, if_false, p1.g1, p1.g4, ht.g2, hl.g1, cr77 h77, q_rem, c1, c2, hR2, hP]
        exact lp79 h70 h77 h78 p1 hz hN n (k + 1) _ w j _ (by omega) hG hR hQ
      · simp (disch := first | assumption | omega) only [e79_0, e79_1, e79_4, e79_5, e79_8, e79_11, e79_12, e79_13, e79_16, e79_17, e79_19, e79_22, e79_23, e79_26, e79_27, e79_28, e79_31, e79_32, e79_33, e79_34, e79_37, e79_38, e79_41, e79_44, e79_45, e79_47, e79_48, e79_50, e79_51, e79_55, e79_56, e79_59, e79_60, e79_62, e79_65, e79_67, e79_69, e79_71, e79_72, e79_74, e79_77, e79_78, e79_81, e79_82, e79_85, e79_88, e79_90, e79_92, e79_93, e79_95, e79_98, e79_99, e79_101, e79_104, e79_107, e79_108, e79_111, e79_114, e79_116, e79_119, e79_120, e79_123, e79_126, e79_129, e79_131, e79_132, e79_135, e79_136, e79_139, e79_141, e79_143, e79_144, e79_145, e79_148, e79_151, e79_152, e79_154, e79_156, e79_157, e79_158, e79_159, e79_162, e79_163, e79_165, e79_168, e79_171, e79_174, e79_175, e79_178, e79_180, e79_183, e79_185, q_gv0, q_gvs, q_isI1, q_isA1, q_hs0, q_hsn, q_hsi, q_hsr, q_hss, q_inc1, List.set_cons_zero, List.set_cons_succ, ↓reduceIte, q_ss0, q_ssi, q_ssr, q_nr0, q_nr10, q_nr11, q_tlS, q_tlN, q_cl, q_let, q_lef, q_ltt, q_ltf, q_eqt, q_eqf, q_add, q_mul, Nat.reduceAdd, Nat.reduceLeDiff, Nat.reduceEqDiff, eq_self, Nat.zero_le, Nat.le_refl, not_false_eq_true, not_true_eq_false, true_and, and_true, and_self, if_true, if_false, p1.g1, p1.g4, ht.g2, cr77 h77, q_rem, c1, c2, hR2]
        exact lp79 h70 h77 h78 p1 hz hN n (k + 1) _ w j _ (by omega) hG hR hQ
theorem cpM_row {M : mv_Mem} {c o : Nat} : cpM M c o c 2 = M o 2 := by
  unfold cpM
  rw [q_wrO (by omega), q_wrO (by omega), q_upS]
theorem gL_cp {M : mv_Mem} {c o a : Nat} (h : gL M a) (hc : a + 6 < c) : gL (cpM M c o) a :=
  gL_of h (cpM_out (by omega) (by omega) (by omega)) (cpM_out (by omega) (by omega) (by omega)) (cpM_out (by omega) (by omega) (by omega)) (cpM_out (by omega) (by omega) (by omega)) (cpM_out (by omega) (by omega) (by omega)) (cpM_out (by omega) (by omega) (by omega)) (cpM_out (by omega) (by omega) (by omega))
/-- are x, y, z numbers of bands -/
def bdB (x y z : Int32) : Prop := x < nI 0 ∨ nI 9999 < x ∨ y < nI 1 ∨ nI 60 < y ∨ z < nI 0 ∨ nI 1 < z
def bdX (M : mv_Mem) (x y : Nat) : Nat × Nat × mv_Mem := bdF x y 0 (cpM M 21 18) 0 0
def sp79 : mv_Sp := fun As sh M Q => ∃ (x : Int32) (y : Int32) (z : Int32), As = [.ref 0, .int x, .int y, .int z] ∧ ((oX sh) ∧ (gL M 3) ∧ (∃ r, r < 25 ∧ M 18 2 = nI r)) ∧ Q (some (.int (if x < nI 0 then Int32.ofInt (-1) else if nI 9999 < x then Int32.ofInt (-1) else if y < nI 1 then Int32.ofInt (-1) else if nI 60 < y then Int32.ofInt (-1) else if z < nI 0 then Int32.ofInt (-1) else if nI 1 < z then Int32.ofInt (-1) else if z = nI 0 then nI (bdX M x.toNatClampNeg y.toNatClampNeg).1 else nI (bdX M x.toNatClampNeg y.toNatClampNeg).2.1))) (sh) (if x < nI 0 then M else if nI 9999 < x then M else if y < nI 1 then M else if nI 60 < y then M else if z < nI 0 then M else if nI 1 < z then M else (bdX M x.toNatClampNeg y.toNatClampNeg).2.2)
theorem cl79 {S : Nat → mv_Sp} (hS : S 79 = sp79) {sh : mv_Shp} {M : mv_Mem} {x : Int32} {y : Int32} {z : Int32} (p1 : oX sh) (p2 : gL M 3) (p3 : ∃ r, r < 25 ∧ M 18 2 = nI r) {K : mv_Kt} {pc : Nat} {L : mv_Loc} {st : List Value} {cc_ ss_ : Nat} : mv_kal S 79 [.ref 0, .int x, .int y, .int z] sh M K pc L st cc_ ss_ = K pc L ((some (.int (if x < nI 0 then Int32.ofInt (-1) else if nI 9999 < x then Int32.ofInt (-1) else if y < nI 1 then Int32.ofInt (-1) else if nI 60 < y then Int32.ofInt (-1) else if z < nI 0 then Int32.ofInt (-1) else if nI 1 < z then Int32.ofInt (-1) else if z = nI 0 then nI (bdX M x.toNatClampNeg y.toNatClampNeg).1 else nI (bdX M x.toNatClampNeg y.toNatClampNeg).2.1)) : Option Value).toList ++ st) (sh) (if x < nI 0 then M else if nI 9999 < x then M else if y < nI 1 then M else if nI 60 < y then M else if z < nI 0 then M else if nI 1 < z then M else (bdX M x.toNatClampNeg y.toNatClampNeg).2.2) cc_ ss_ := by
  refine q_kal (fun F => q_cali (fun Q => ?_))
  rw [hS]
  constructor
  · rintro ⟨x', y', z', hE, ⟨zp1, zp2, zp3⟩, hQ⟩
    simp only [List.cons.injEq, Value.ref.injEq, Value.int.injEq, Value.long.injEq, and_true, true_and] at hE
    obtain ⟨rfl, rfl, rfl⟩ := hE
    exact hQ
  · intro hQ
    exact ⟨x, y, z, rfl, ⟨p1, p2, p3⟩, hQ⟩
theorem ct79 {S : Nat → mv_Sp} (h52 : S 52 = sp52) (h70 : S 70 = sp70) (h77 : S 77 = sp77) (h78 : S 78 = sp78) : ∀ As sh M P, sp79 As sh M P → (mv_al0 As).length ≤ 8 ∧ mr79 S P 0 (mv_ent As 8) [] sh M 0 0 := by
  rintro As sh M P ⟨x, y, z, rfl, ⟨p1, p2, p3⟩, hQ⟩
  refine ⟨Nat.le_of_ble_eq_true rfl, ?_⟩
  show mr79 S P 0 [some (.ref 0), some (.int x), some (.int y), some (.int z), none, none, none, none] [] sh M 0 0
  have hl := p1.loom
  have hc := p1.cloth
  have ht := p1.trial
  have gg : ∀ {a b : Int32}, a ≤ b → (b < a) = False := fun h => eq_false (Int32.not_lt.mpr h)
  have gt : ∀ {a b : Int32}, b < a → (a ≤ b) = False := fun h => eq_false (Int32.not_le.mpr h)
  by_cases c1 : x < nI 0
  · rw [if_pos c1, if_pos c1] at hQ
    simp (disch := first | assumption | omega) only [e79_0, e79_1, e79_4, e79_5, e79_8, e79_11, e79_12, e79_13, e79_16, e79_17, e79_19, e79_22, e79_23, e79_26, e79_27, e79_28, e79_31, e79_32, e79_33, e79_34, e79_37, e79_38, e79_41, e79_44, e79_45, e79_47, e79_48, e79_50, e79_51, e79_55, e79_56, e79_59, e79_60, e79_62, e79_65, e79_67, e79_69, e79_71, e79_72, e79_74, e79_77, e79_78, e79_81, e79_82, e79_85, e79_88, e79_90, e79_92, e79_93, e79_95, e79_98, e79_99, e79_101, e79_104, e79_107, e79_108, e79_111, e79_114, e79_116, e79_119, e79_120, e79_123, e79_126, e79_129, e79_131, e79_132, e79_135, e79_136, e79_139, e79_141, e79_143, e79_144, e79_145, e79_148, e79_151, e79_152, e79_154, e79_156, e79_157, e79_158, e79_159, e79_162, e79_163, e79_165, e79_168, e79_171, e79_174, e79_175, e79_178, e79_180, e79_183, e79_185, q_gv0, q_gvs, q_isI1, q_isA1, q_hs0, q_hsn, q_hsi, q_hsr, q_hss, q_inc1, List.set_cons_zero, List.set_cons_succ, ↓reduceIte, q_ss0, q_ssi, q_ssr, q_nr0, q_nr10, q_nr11, q_tlS, q_tlN, q_cl, q_let, q_lef, q_ltt, q_ltf, q_eqt, q_eqf, q_add, q_mul, Nat.reduceAdd, Nat.reduceLeDiff, Nat.reduceEqDiff, eq_self, Nat.zero_le, Nat.le_refl, not_false_eq_true, not_true_eq_false, true_and, and_true, and_self, if_true, if_false, c1]
    exact hQ
  rw [if_neg c1, if_neg c1] at hQ
  by_cases c2 : nI 9999 < x
  · rw [if_pos c2, if_pos c2] at hQ
    simp (disch := first | assumption | omega) only [e79_0, e79_1, e79_4, e79_5, e79_8, e79_11, e79_12, e79_13, e79_16, e79_17, e79_19, e79_22, e79_23, e79_26, e79_27, e79_28, e79_31, e79_32, e79_33, e79_34, e79_37, e79_38, e79_41, e79_44, e79_45, e79_47, e79_48, e79_50, e79_51, e79_55, e79_56, e79_59, e79_60, e79_62, e79_65, e79_67, e79_69, e79_71, e79_72, e79_74, e79_77, e79_78, e79_81, e79_82, e79_85, e79_88, e79_90, e79_92, e79_93, e79_95, e79_98, e79_99, e79_101, e79_104, e79_107, e79_108, e79_111, e79_114, e79_116, e79_119, e79_120, e79_123, e79_126, e79_129, e79_131, e79_132, e79_135, e79_136, e79_139, e79_141, e79_143, e79_144, e79_145, e79_148, e79_151, e79_152, e79_154, e79_156, e79_157, e79_158, e79_159, e79_162, e79_163, e79_165, e79_168, e79_171, e79_174, e79_175, e79_178, e79_180, e79_183, e79_185, q_gv0, q_gvs, q_isI1, q_isA1, q_hs0, q_hsn, q_hsi, q_hsr, q_hss, q_inc1, List.set_cons_zero, List.set_cons_succ, ↓reduceIte, q_ss0, q_ssi, q_ssr, q_nr0, q_nr10, q_nr11, q_tlS, q_tlN, q_cl, q_let, q_lef, q_ltt, q_ltf, q_eqt, q_eqf, q_add, q_mul, Nat.reduceAdd, Nat.reduceLeDiff, Nat.reduceEqDiff, eq_self, Nat.zero_le, Nat.le_refl, not_false_eq_true, not_true_eq_false, true_and, and_true, and_self, if_true, if_false, c1, c2]
    exact hQ
  rw [if_neg c2, if_neg c2] at hQ
  by_cases c3 : y < nI 1
  · rw [if_pos c3, if_pos c3] at hQ
    simp (disch := first | assumption | omega) only [e79_0, e79_1, e79_4, e79_5, e79_8, e79_11, e79_12, e79_13, e79_16, e79_17, e79_19, e79_22, e79_23, e79_26, e79_27, e79_28, e79_31, e79_32, e79_33, e79_34, e79_37, e79_38, e79_41, e79_44, e79_45, e79_47, e79_48, e79_50, e79_51, e79_55, e79_56, e79_59, e79_60, e79_62, e79_65, e79_67, e79_69, e79_71, e79_72, e79_74, e79_77, e79_78, e79_81, e79_82, e79_85, e79_88, e79_90, e79_92, e79_93, e79_95, e79_98, e79_99, e79_101, e79_104, e79_107, e79_108, e79_111, e79_114, e79_116, e79_119, e79_120, e79_123, e79_126, e79_129, e79_131, e79_132, e79_135, e79_136, e79_139, e79_141, e79_143, e79_144, e79_145, e79_148, e79_151, e79_152, e79_154, e79_156, e79_157, e79_158, e79_159, e79_162, e79_163, e79_165, e79_168, e79_171, e79_174, e79_175, e79_178, e79_180, e79_183, e79_185, q_gv0, q_gvs, q_isI1, q_isA1, q_hs0, q_hsn, q_hsi, q_hsr, q_hss, q_inc1, List.set_cons_zero, List.set_cons_succ, ↓reduceIte, q_ss0, q_ssi, q_ssr, q_nr0, q_nr10, q_nr11, q_tlS, q_tlN, q_cl, q_let, q_lef, q_ltt, q_ltf, q_eqt, q_eqf, q_add, q_mul, Nat.reduceAdd, Nat.reduceLeDiff, Nat.reduceEqDiff, eq_self, Nat.zero_le, Nat.le_refl, not_false_eq_true, not_true_eq_false, true_and, and_true, and_self, if_true, if_false, c1, c2, c3]
    exact hQ
  rw [if_neg c3, if_neg c3] at hQ
  by_cases c4 : nI 60 < y
  · rw [if_pos c4, if_pos c4] at hQ
    simp (disch := first | assumption | omega) only [e79_0, e79_1, e79_4, e79_5, e79_8, e79_11, e79_12, e79_13, e79_16, e79_17, e79_19, e79_22, e79_23, e79_26, e79_27, e79_28, e79_31, e79_32, e79_33, e79_34, e79_37, e79_38, e79_41, e79_44, e79_45, e79_47, e79_48, e79_50, e79_51, e79_55, e79_56, e79_59, e79_60, e79_62, e79_65, e79_67, e79_69, e79_71, e79_72, e79_74, e79_77, e79_78, e79_81, e79_82, e79_85, e79_88, e79_90, e79_92, e79_93, e79_95, e79_98, e79_99, e79_101, e79_104, e79_107, e79_108, e79_111, e79_114, e79_116, e79_119, e79_120, e79_123, e79_126, e79_129, e79_131, e79_132, e79_135, e79_136, e79_139, e79_141, e79_143, e79_144, e79_145, e79_148, e79_151, e79_152, e79_154, e79_156, e79_157, e79_158, e79_159, e79_162, e79_163, e79_165, e79_168, e79_171, e79_174, e79_175, e79_178, e79_180, e79_183, e79_185, q_gv0, q_gvs, q_isI1, q_isA1, q_hs0, q_hsn, q_hsi, q_hsr, q_hss, q_inc1, List.set_cons_zero, List.set_cons_succ, ↓reduceIte, q_ss0, q_ssi, q_ssr, q_nr0, q_nr10, q_nr11, q_tlS, q_tlN, q_cl, q_let, q_lef, q_ltt, q_ltf, q_eqt, q_eqf, q_add, q_mul, Nat.reduceAdd, Nat.reduceLeDiff, Nat.reduceEqDiff, eq_self, Nat.zero_le, Nat.le_refl, not_false_eq_true, not_true_eq_false, true_and, and_true, and_self, if_true, if_false, c1, c2, c3, c4]
    exact hQ
  rw [if_neg c4, if_neg c4] at hQ
  by_cases c5 : z < nI 0
  · rw [if_pos c5, if_pos c5] at hQ
    simp (disch := first | assumption | omega) only [e79_0, e79_1, e79_4, e79_5, e79_8, e79_11, e79_12, e79_13, e79_16, e79_17, e79_19, e79_22, e79_23, e79_26, e79_27, e79_28, e79_31, e79_32, e79_33, e79_34, e79_37, e79_38, e79_41, e79_44, e79_45, e79_47, e79_48, e79_50, e79_51, e79_55, e79_56, e79_59, e79_60, e79_62, e79_65, e79_67, e79_69, e79_71, e79_72, e79_74, e79_77, e79_78, e79_81, e79_82, e79_85, e79_88, e79_90, e79_92, e79_93, e79_95, e79_98, e79_99, e79_101, e79_104, e79_107, e79_108, e79_111, e79_114, e79_116, e79_119, e79_120, e79_123, e79_126, e79_129, e79_131, e79_132, e79_135, e79_136, e79_139, e79_141, e79_143, e79_144, e79_145, e79_148, e79_151, e79_152, e79_154, e79_156, e79_157, e79_158, e79_159, e79_162, e79_163, e79_165, e79_168, e79_171, e79_174, e79_175, e79_178, e79_180, e79_183, e79_185, q_gv0, q_gvs, q_isI1, q_isA1, q_hs0, q_hsn, q_hsi, q_hsr, q_hss, q_inc1, List.set_cons_zero, List.set_cons_succ, ↓reduceIte, q_ss0, q_ssi, q_ssr, q_nr0, q_nr10, q_nr11, q_tlS, q_tlN, q_cl, q_let, q_lef, q_ltt, q_ltf, q_eqt, q_eqf, q_add, q_mul, Nat.reduceAdd, Nat.reduceLeDiff, Nat.reduceEqDiff, eq_self, Nat.zero_le, Nat.le_refl, not_false_eq_true, not_true_eq_false, true_and, and_true, and_self, if_true, if_false, c1, c2, c3, c4, c5]
    exact hQ
  rw [if_neg c5, if_neg c5] at hQ
  by_cases c6 : nI 1 < z
  · rw [if_pos c6, if_pos c6] at hQ
    have c7 := gt c6
    simp (disch := first | assumption | omega) only [e79_0, e79_1, e79_4, e79_5, e79_8, e79_11, e79_12, e79_13, e79_16, e79_17, e79_19, e79_22, e79_23, e79_26, e79_27, e79_28, e79_31, e79_32, e79_33, e79_34, e79_37, e79_38, e79_41, e79_44, e79_45, e79_47, e79_48, e79_50, e79_51, e79_55, e79_56, e79_59, e79_60, e79_62, e79_65, e79_67, e79_69, e79_71, e79_72, e79_74, e79_77, e79_78, e79_81, e79_82, e79_85, e79_88, e79_90, e79_92, e79_93, e79_95, e79_98, e79_99, e79_101, e79_104, e79_107, e79_108, e79_111, e79_114, e79_116, e79_119, e79_120, e79_123, e79_126, e79_129, e79_131, e79_132, e79_135, e79_136, e79_139, e79_141, e79_143, e79_144, e79_145, e79_148, e79_151, e79_152, e79_154, e79_156, e79_157, e79_158, e79_159, e79_162, e79_163, e79_165, e79_168, e79_171, e79_174, e79_175, e79_178, e79_180, e79_183, e79_185, q_gv0, q_gvs, q_isI1, q_isA1, q_hs0, q_hsn, q_hsi, q_hsr, q_hss, q_inc1, List.set_cons_zero, List.set_cons_succ, ↓reduceIte, q_ss0, q_ssi, q_ssr, q_nr0, q_nr10, q_nr11, q_tlS, q_tlN, q_cl, q_let, q_lef, q_ltt, q_ltf, q_eqt, q_eqf, q_add, q_mul, Nat.reduceAdd, Nat.reduceLeDiff, Nat.reduceEqDiff, eq_self, Nat.zero_le, Nat.le_refl, not_false_eq_true, not_true_eq_false, true_and, and_true, and_self, if_true, if_false, c1, c2, c3, c4, c5, c7]
    exact hQ
  rw [if_neg c6, if_neg c6] at hQ
  have c7 : z ≤ nI 1 := Int32.not_lt.mp c6
  rcases i32_c x with d | ⟨k, hk, rfl⟩
  · exact absurd d c1
  rcases i32_c y with d | ⟨n, hn, rfl⟩
  · exact absurd (Int32.lt_trans d (by decide)) c3
  have k1 : ¬ 9999 < k := fun e => c2 ((nI_ltI (by omega) (by omega)).mpr e)
  have n1 : ¬ 60 < n := fun e => c4 ((nI_ltI (by omega) (by omega)).mpr e)
  rw [q_cl hk, q_cl hn] at hQ
  simp (disch := first | assumption | omega) only [e79_0, e79_1, e79_4, e79_5, e79_8, e79_11, e79_12, e79_13, e79_16, e79_17, e79_19, e79_22, e79_23, e79_26, e79_27, e79_28, e79_31, e79_32, e79_33, e79_34, e79_37, e79_38, e79_41, e79_44, e79_45, e79_47, e79_48, e79_50, e79_51, e79_55, e79_56, e79_59, e79_60, e79_62, e79_65, e79_67, e79_69, e79_71, e79_72, e79_74, e79_77, e79_78, e79_81, e79_82, e79_85, e79_88, e79_90, e79_92, e79_93, e79_95, e79_98, e79_99, e79_101, e79_104, e79_107, e79_108, e79_111, e79_114, e79_116, e79_119, e79_120, e79_123, e79_126, e79_129, e79_131, e79_132, e79_135, e79_136, e79_139, e79_141, e79_143, e79_144, e79_145, e79_148, e79_151, e79_152, e79_154, e79_156, e79_157, e79_158, e79_159, e79_162, e79_163, e79_165, e79_168, e79_171, e79_174, e79_175, e79_178, e79_180, e79_183, e79_185, q_gv0, q_gvs, q_isI1, q_isA1, q_hs0, q_hsn, q_hsi, q_hsr, q_hss, q_inc1, List.set_cons_zero, List.set_cons_succ, ↓reduceIte, q_ss0, q_ssi, q_ssr, q_nr0, q_nr10, q_nr11, q_tlS, q_tlN, q_cl, q_let, q_lef, q_ltt, q_ltf, q_eqt, q_eqf, q_add, q_mul, Nat.reduceAdd, Nat.reduceLeDiff, Nat.reduceEqDiff, eq_self, Nat.zero_le, Nat.le_refl, not_false_eq_true, not_true_eq_false, true_and, and_true, and_self, if_true, if_false, c1, c2, c3, c4, c5, c7, p1.g3, p1.g4, ht.o, hc, cl52 h52]
  exact lp79 h70 h77 h78 p1 (by omega) (by omega) n 0 _ 0 0 none (by omega) (gL_cp p2 (by decide)) (by rw [cpM_row]; exact p3) hQ
/-- the draft's picks from the k-th on, till one jams -/
def jmI : Nat → Nat → mv_Mem → Nat × mv_Mem
  | 0, _, M => (0, M)
  | n + 1, k, M => if tjF M 21 3 ((M 9 k).toNatClampNeg / 10) ((M 9 k).toNatClampNeg % 10) (M 3 0).toNatClampNeg = 0 then jmI n (k + 1) (trM M 21 3 ((M 9 k).toNatClampNeg / 10) ((M 9 k).toNatClampNeg % 10) (M 3 0).toNatClampNeg)
    else (1, trM M 21 3 ((M 9 k).toNatClampNeg / 10) ((M 9 k).toNatClampNeg % 10) (M 3 0).toNatClampNeg)
def jmO (K : Nat) : Nat → Nat → mv_Mem → Int32 × mv_Mem
  | 0, _, M => (Int32.ofInt (-4), M)
  | n + 1, t, M => if (jmI K 0 M).1 = 1 then (nI t, (jmI K 0 M).2) else jmO K n (t + 1) (jmI K 0 M).2
theorem gL_tr {M : mv_Mem} {c a p w o n : Nat} (h : gL M o) (ho : o + 6 < c) : gL (trM M c a p w n) o :=
  gL_of h (trM_out (by omega) _) (trM_out (by omega) _) (trM_out (by omega) _) (trM_out (by omega) _) (trM_out (by omega) _) (trM_out (by omega) _) (trM_out (by omega) _)
theorem jmI_01 : ∀ n k M, (jmI n k M).1 = 0 ∨ (jmI n k M).1 = 1
  | 0, _, _ => Or.inl rfl
  | n + 1, k, M => by
    unfold jmI
    split
    · exact jmI_01 n _ _
    · exact Or.inr rfl
theorem lp109i {S : Nat → mv_Sp} (h55 : S 55 = sp55) (h56 : S 56 = sp56) (h64 : S 64 = sp64) {sh : mv_Shp} {P : mv_Post} {nK t : Nat} (p1 : oX sh) (hK8 : nK ≤ 8) :
    ∀ n k (M : mv_Mem), k + n = nK → gL M 3 → M 3 2 = nI nK → ((jmI n k M).1 = 1 → P (some (.int (nI t))) sh (jmI n k M).2) →
      ((jmI n k M).1 = 0 → ∀ z, gL (jmI n k M).2 3 → (jmI n k M).2 3 2 = nI nK → mr109 S P 70 [some (.ref 0), some (.int (nI t)), z] [] sh (jmI n k M).2 0 0) →
      mr109 S P 21 [some (.ref 0), some (.int (nI t)), some (.int (nI k))] [] sh M 0 0
  | 0, k, M, h, hG, hK, k1, k0 => by
    obtain rfl : k = nK := by omega
    have hl := p1.loom
    rw [e109_21]
    simp (disch := first | assumption | omega) only [e109_0, e109_1, e109_4, e109_5, e109_8, e109_11, e109_12, e109_13, e109_14, e109_16, e109_19, e109_20, e109_22, e109_23, e109_26, e109_29, e109_32, e109_33, e109_36, e109_37, e109_40, e109_41, e109_44, e109_45, e109_48, e109_49, e109_52, e109_53, e109_56, e109_59, e109_62, e109_63, e109_64, e109_67, e109_73, e109_76, e109_78, q_gv0, q_gvs, q_isI1, q_isA1, q_hs0, q_hsn, q_hsi, q_hsr, q_hss, q_inc1, List.set_cons_zero, List.set_cons_succ, ↓reduceIte, q_ss0, q_ssi, q_ssr, q_nr0, q_nr10, q_nr11, q_tlS, q_tlN, q_cl, q_let, q_lef, q_ltt, q_ltf, q_eqt, q_eqf, q_add, q_mul, Nat.reduceAdd, Nat.reduceLeDiff, Nat.reduceEqDiff, eq_self, Nat.zero_le, Nat.le_refl, not_false_eq_true, not_true_eq_false, true_and, and_true, and_self, if_true, if_false, p1.g1, hl.g2, hK]
    exact k0 rfl _ hG hK
  | n + 1, k, M, h, hG, hK, k1, k0 => by
    have hl := p1.loom
    have ht := p1.trial
    obtain ⟨q, w, hq, hw, hV⟩ := pkE hG (show k < 8 by omega)
    have hV : M 9 k = nI (10 * q + w) := hV
    have hv : ∃ v, v < 60 ∧ M (3 + 6) k = nI v := ⟨10 * q + w, by omega, hV⟩
    have k8 : k < 8 := by omega
    have b21 : 3 + 6 < 21 := by decide
    have d1 : (M (3 + 6) k).toNatClampNeg / 10 = q := by show (M 9 k).toNatClampNeg / 10 = q; rw [hV, q_cl (by omega), dv10 hw]
    have d2 : (M (3 + 6) k).toNatClampNeg % 10 = w := by show (M 9 k).toNatClampNeg % 10 = w; rw [hV, q_cl (by omega), md10 hw]
    obtain ⟨nT, h6, hT⟩ := hG.1
    have hj := tjF_le M 21 3 q w (M 3 0).toNatClampNeg
    rw [hT, q_cl (show nT < 2147483648 by omega)] at hj
    unfold jmI at k1 k0
    rw [show (M 9 k).toNatClampNeg / 10 = q from d1, show (M 9 k).toNatClampNeg % 10 = w from d2, hT, q_cl (show nT < 2147483648 by omega)] at k1 k0
    rw [e109_21]
    by_cases c1 : tjF M 21 3 q w nT = 0
    · rw [if_pos c1] at k1 k0
      simp (disch := first | assumption | omega) only [e109_0, e109_1, e109_4, e109_5, e109_8, e109_11, e109_12, e109_13, e109_14, e109_16, e109_19, e109_20, e109_22, e109_23, e109_26, e109_29, e109_32, e109_33, e109_36, e109_37, e109_40, e109_41, e109_44, e109_45, e109_48, e109_49, e109_52, e109_53, e109_56, e109_59, e109_62, e109_63, e109_64, e109_67, e109_73, e109_76, e109_78, q_gv0, q_gvs, q_isI1, q_isA1, q_hs0, q_hsn, q_hsi, q_hsr, q_hss, q_inc1, List.set_cons_zero, List.set_cons_succ, ↓reduceIte, q_ss0, q_ssi, q_ssr, q_nr0, q_nr10, q_nr11, q_tlS, q_tlN, q_cl, q_let, q_lef, q_ltt, q_ltf, q_eqt, q_eqf, q_add, q_mul, Nat.reduceAdd, Nat.reduceLeDiff, Nat.reduceEqDiff, eq_self, Nat.zero_le, Nat.le_refl, not_false_eq_true, not_true_eq_false, true_and, and_true, and_self, if_true, if_false, p1.g1, p1.g4, hl.g2, hl.o, ht.o, hK, cl55 h55, cl56 h56, d1, d2, cl64 h64, hT, c1]
      exact lp109i h55 h56 h64 p1 hK8 n (k + 1) _ (by omega) (gL_tr hG (by decide)) (by rw [trM_out (by decide)]; exact hK) k1 k0
    · rw [if_neg c1] at k1 k0
      simp (disch := first | assumption | omega) only [e109_0, e109_1, e109_4, e109_5, e109_8, e109_11, e109_12, e109_13, e109_14, e109_16, e109_19, e109_20, e109_22, e109_23, e109_26, e109_29, e109_32, e109_33, e109_36, e109_37, e109_40, e109_41, e109_44, e109_45, e109_48, e109_49, e109_52, e109_53, e109_56, e109_59, e109_62, e109_63, e109_64, e109_67, e109_73, e109_76, e109_78, q_gv0, q_gvs, q_isI1, q_isA1, q_hs0, q_hsn, q_hsi, q_hsr, q_hss, q_inc1, List.set_cons_zero, List.set_cons_succ, ↓reduceIte, q_ss0, q_ssi, q_ssr, q_nr0, q_nr10, q_nr11, q_tlS, q_tlN, q_cl, q_let, q_lef, q_ltt, q_ltf, q_eqt, q_eqf, q_add, q_mul, Nat.reduceAdd, Nat.reduceLeDiff, Nat.reduceEqDiff, eq_self, Nat.zero_le, Nat.le_refl, not_false_eq_true, not_true_eq_false, true_and, and_true, and_self, if_true, if_false, p1.g1, p1.g4, hl.g2, hl.o, ht.o, hK, cl55 h55, cl56 h56, d1, d2, cl64 h64, hT, c1]
      exact k1 rfl
theorem lp109o {S : Nat → mv_Sp} (h55 : S 55 = sp55) (h56 : S 56 = sp56) (h64 : S 64 = sp64) {sh : mv_Shp} {P : mv_Post} {nK : Nat} (p1 : oX sh) (hK8 : nK ≤ 8) :
    ∀ n t (M : mv_Mem) z, t + n = 61 → gL M 3 → M 3 2 = nI nK → P (some (.int (jmO nK n t M).1)) sh (jmO nK n t M).2 →
      mr109 S P 13 [some (.ref 0), some (.int (nI t)), z] [] sh M 0 0
  | 0, t, M, z, h, hG, hK, hQ => by
    obtain rfl : t = 61 := by omega
    rw [e109_13]
    simp (disch := first | assumption | omega) only [e109_0, e109_1, e109_4, e109_5, e109_8, e109_11, e109_12, e109_14, e109_16, e109_19, e109_20, e109_22, e109_23, e109_26, e109_29, e109_32, e109_33, e109_36, e109_37, e109_40, e109_41, e109_44, e109_45, e109_48, e109_49, e109_52, e109_53, e109_56, e109_59, e109_62, e109_63, e109_64, e109_67, e109_70, e109_73, e109_76, e109_78, q_gv0, q_gvs, q_isI1, q_isA1, q_hs0, q_hsn, q_hsi, q_hsr, q_hss, q_inc1, List.set_cons_zero, List.set_cons_succ, ↓reduceIte, q_ss0, q_ssi, q_ssr, q_nr0, q_nr10, q_nr11, q_tlS, q_tlN, q_cl, q_let, q_lef, q_ltt, q_ltf, q_eqt, q_eqf, q_add, q_mul, Nat.reduceAdd, Nat.reduceLeDiff, Nat.reduceEqDiff, eq_self, Nat.zero_le, Nat.le_refl, not_false_eq_true, not_true_eq_false, true_and, and_true, and_self, if_true, if_false]
    exact hQ
  | n + 1, t, M, z, h, hG, hK, hQ => by
    unfold jmO at hQ
    rw [e109_13]
    simp (disch := first | assumption | omega) only [e109_0, e109_1, e109_4, e109_5, e109_8, e109_11, e109_12, e109_14, e109_16, e109_19, e109_20, e109_22, e109_23, e109_26, e109_29, e109_32, e109_33, e109_36, e109_37, e109_40, e109_41, e109_44, e109_45, e109_48, e109_49, e109_52, e109_53, e109_56, e109_59, e109_62, e109_63, e109_64, e109_67, e109_70, e109_73, e109_76, e109_78, q_gv0, q_gvs, q_isI1, q_isA1, q_hs0, q_hsn, q_hsi, q_hsr, q_hss, q_inc1, List.set_cons_zero, List.set_cons_succ, ↓reduceIte, q_ss0, q_ssi, q_ssr, q_nr0, q_nr10, q_nr11, q_tlS, q_tlN, q_cl, q_let, q_lef, q_ltt, q_ltf, q_eqt, q_eqf, q_add, q_mul, Nat.reduceAdd, Nat.reduceLeDiff, Nat.reduceEqDiff, eq_self, Nat.zero_le, Nat.le_refl, not_false_eq_true, not_true_eq_false, true_and, and_true, and_self, if_true, if_false]
    refine lp109i h55 h56 h64 p1 hK8 nK 0 M (by omega) hG hK (fun e => ?_) (fun e z g q => ?_)
    · rw [if_pos e] at hQ
      exact hQ
    · rw [if_neg (by rw [e]; decide)] at hQ
      simp (disch := first | assumption | omega) only [e109_70, e109_73, q_gv0, q_gvs, q_isI1, q_isA1, q_hs0, q_hsn, q_hsi, q_hsr, q_hss, q_inc1, List.set_cons_zero, List.set_cons_succ, ↓reduceIte, q_ss0, q_ssi, q_ssr, q_nr0, q_nr10, q_nr11, q_tlS, q_tlN, q_cl, q_let, q_lef, q_ltt, q_ltf, q_eqt, q_eqf, q_add, q_mul, Nat.reduceAdd, Nat.reduceLeDiff, Nat.reduceEqDiff, eq_self, Nat.zero_le, Nat.le_refl, not_false_eq_true, not_true_eq_false, true_and, and_true, and_self, if_true, if_false]
      exact lp109o h55 h56 h64 p1 hK8 n (t + 1) _ _ (by omega) g q hQ
def jmX (M : mv_Mem) : Int32 × mv_Mem := jmO (M 3 2).toNatClampNeg 60 1 (cpM M 21 18)
def sp109 : mv_Sp := fun As sh M Q => As = [.ref 0] ∧ ((oX sh) ∧ (gL M 3) ∧ (∃ r, r < 25 ∧ M 18 2 = nI r)) ∧ Q (some (.int (jmX M).1)) (sh) ((jmX M).2)
theorem cl109 {S : Nat → mv_Sp} (hS : S 109 = sp109) {sh : mv_Shp} {M : mv_Mem}  (p1 : oX sh) (p2 : gL M 3) (p3 : ∃ r, r < 25 ∧ M 18 2 = nI r) {K : mv_Kt} {pc : Nat} {L : mv_Loc} {st : List Value} {cc_ ss_ : Nat} : mv_kal S 109 [.ref 0] sh M K pc L st cc_ ss_ = K pc L ((some (.int (jmX M).1) : Option Value).toList ++ st) (sh) ((jmX M).2) cc_ ss_ := by
  refine q_kal (fun F => q_cali (fun Q => ?_))
  rw [hS]
  constructor
  · rintro ⟨hE, ⟨zp1, zp2, zp3⟩, hQ⟩
    exact hQ
  · intro hQ
    exact ⟨rfl, ⟨p1, p2, p3⟩, hQ⟩
theorem ct109 {S : Nat → mv_Sp} (h52 : S 52 = sp52) (h55 : S 55 = sp55) (h56 : S 56 = sp56) (h64 : S 64 = sp64) : ∀ As sh M P, sp109 As sh M P → (mv_al0 As).length ≤ 3 ∧ mr109 S P 0 (mv_ent As 3) [] sh M 0 0 := by
  rintro As sh M P ⟨rfl, ⟨p1, p2, p3⟩, hQ⟩
  refine ⟨Nat.le_of_ble_eq_true rfl, ?_⟩
  show mr109 S P 0 [some (.ref 0), none, none] [] sh M 0 0
  have hl := p1.loom
  have hc := p1.cloth
  have ht := p1.trial
  obtain ⟨nK, hK8, hK⟩ := p2.2.2.1
  unfold jmX at hQ
  rw [hK, q_cl (show nK < 2147483648 by omega)] at hQ
  simp (disch := first | assumption | omega) only [e109_0, e109_1, e109_4, e109_5, e109_8, e109_11, e109_12, e109_14, e109_16, e109_19, e109_20, e109_22, e109_23, e109_26, e109_29, e109_32, e109_33, e109_36, e109_37, e109_40, e109_41, e109_44, e109_45, e109_48, e109_49, e109_52, e109_53, e109_56, e109_59, e109_62, e109_63, e109_64, e109_67, e109_70, e109_73, e109_76, e109_78, q_gv0, q_gvs, q_isI1, q_isA1, q_hs0, q_hsn, q_hsi, q_hsr, q_hss, q_inc1, List.set_cons_zero, List.set_cons_succ, ↓reduceIte, q_ss0, q_ssi, q_ssr, q_nr0, q_nr10, q_nr11, q_tlS, q_tlN, q_cl, q_let, q_lef, q_ltt, q_ltf, q_eqt, q_eqf, q_add, q_mul, Nat.reduceAdd, Nat.reduceLeDiff, Nat.reduceEqDiff, eq_self, Nat.zero_le, Nat.le_refl, not_false_eq_true, not_true_eq_false, true_and, and_true, and_self, if_true, if_false, p1.g3, p1.g4, ht.o, hc, cl52 h52]
  exact lp109o h55 h56 h64 p1 hK8 60 1 _ none rfl (gL_cp p2 (by decide)) (by rw [cpM_out (by decide) (by decide) (by decide)]; exact hK) hQ
/-- does turning tablet t by pack p show -/
def ssB (M : mv_Mem) (p w t : Nat) : Nat := if M (3 + 5) p >>> (nI t &&& 31) &&& nI 1 = nI 1 then (if ocF (M (3 + 1) t).toNatClampNeg w (M (18 + 1) (t * 5 + 1)) (M 3 3) = 0 ∧ ¬ M (3 + 3) (t * 4 + ((M (18 + 1) (t * 5 + 0) + qf (M (3 + 1) t).toNatClampNeg w) &&& nI 3).toNatClampNeg) = M (3 + 3) (t * 4 + (M (18 + 1) (t * 5 + 0)).toNatClampNeg) then 1 else 0) else 0
/-- how many do -/
def ssF (M : mv_Mem) (p w : Nat) : Nat → Nat
  | 0 => 0
  | t + 1 => ssF M p w t + ssB M p w t
theorem ssB_01 (M : mv_Mem) (p w t : Nat) : ssB M p w t = 0 ∨ ssB M p w t = 1 := by
  unfold ssB
  split
  · split <;> simp
  · simp
theorem ssF_le (M : mv_Mem) (p w : Nat) : ∀ t, ssF M p w t ≤ t
  | 0 => Nat.le_refl _
  | t + 1 => by
    have := ssF_le M p w t
    unfold ssF
    rcases ssB_01 M p w t with h | h <;> rw [h] <;> omega
theorem lp126 {S : Nat → mv_Sp} (h58 : S 58 = sp58) (h125 : S 125 = sp125) {sh : mv_Shp} {M : mv_Mem} {P : mv_Post} {p w x nT : Nat} {y : Int32} (p1 : oX sh) (hp : p < 6) (hw : w < 2) (hx : x ≤ 10) (hG : gL M 3) (hT : M 3 0 = nI nT) (hT6 : nT ≤ 6) (hC : ∀ t, t < 6 → ∃ h, h < 4 ∧ M (18 + 1) (t * 5 + 0) = nI h)
    (hQ : ∀ z, mr126 S P 111 [some (.ref 0), some (.int (nI p)), some (.int (nI w)), some (.int (nI x)), some (.int y), some (.int (nI ((10 - x) ^ ssF M p w nT))), some (.int (nI (10 ^ ssF M p w nT))), z] [] sh M 0 0) :
    ∀ n t, t + n = nT → mr126 S P 47 [some (.ref 0), some (.int (nI p)), some (.int (nI w)), some (.int (nI x)), some (.int y), some (.int (nI ((10 - x) ^ ssF M p w t))), some (.int (nI (10 ^ ssF M p w t))), some (.int (nI t))] [] sh M 0 0
  | 0, t, h => by
    obtain rfl : t = nT := by omega
    have hl := p1.loom
    rw [e126_47]
    simp (disch := first | assumption | omega) only [e126_0, e126_1, e126_2, e126_5, e126_8, e126_9, e126_12, e126_15, e126_16, e126_19, e126_20, e126_22, e126_25, e126_27, e126_30, e126_32, e126_33, e126_36, e126_37, e126_38, e126_39, e126_41, e126_42, e126_44, e126_45, e126_49, e126_50, e126_53, e126_56, e126_59, e126_60, e126_63, e126_64, e126_66, e126_69, e126_72, e126_73, e126_76, e126_77, e126_80, e126_82, e126_83, e126_86, e126_89, e126_91, e126_93, e126_94, e126_95, e126_96, e126_98, e126_100, e126_102, e126_103, e126_105, e126_108, e126_113, e126_115, e126_118, e126_120, e126_122, e126_125, e126_127, e126_130, e126_132, e126_134, e126_137, e126_139, e126_142, e126_143, e126_144, q_gv0, q_gvs, q_isI1, q_isA1, q_hs0, q_hsn, q_hsi, q_hsr, q_hss, q_inc1, List.set_cons_zero, List.set_cons_succ, ↓reduceIte, q_ss0, q_ssi, q_ssr, q_nr0, q_nr10, q_nr11, q_tlS, q_tlN, q_cl, q_let, q_lef, q_ltt, q_ltf, q_eqt, q_eqf, q_add, q_mul, Nat.reduceAdd, Nat.reduceLeDiff, Nat.reduceEqDiff, eq_self, Nat.zero_le, Nat.le_refl, not_false_eq_true, not_true_eq_false, true_and, and_true, and_self, if_true, if_false, p1.g1, hl.g0, hT]
    exact hQ _
  | n + 1, t, h => by
    have hl := p1.loom
    have hc := p1.cloth
    have ih := lp126 h58 h125 p1 hp hw hx hG hT hT6 hC hQ n (t + 1) (by omega)
    have hk : ∃ k, k < 4 ∧ M (3 + 1) t = nI k := hG.2.2.2.2.1 t (by omega)
    have hh := hC t (by omega)
    rw [e126_47]
    unfold ssF at ih
    by_cases c1 : M (3 + 5) p >>> (nI t &&& 31) &&& nI 1 = nI 1
    · have e : ssB M p w t = if ocF (M (3 + 1) t).toNatClampNeg w (M (18 + 1) (t * 5 + 1)) (M 3 3) = 0 ∧ ¬ M (3 + 3) (t * 4 + ((M (18 + 1) (t * 5 + 0) + qf (M (3 + 1) t).toNatClampNeg w) &&& nI 3).toNatClampNeg) = M (3 + 3) (t * 4 + (M (18 + 1) (t * 5 + 0)).toNatClampNeg) then 1 else 0 := if_pos c1
      rw [e] at ih
      by_cases c2 : ocF (M (3 + 1) t).toNatClampNeg w (M (18 + 1) (t * 5 + 1)) (M 3 3) = 0 ∧ ¬ M (3 + 3) (t * 4 + ((M (18 + 1) (t * 5 + 0) + qf (M (3 + 1) t).toNatClampNeg w) &&& nI 3).toNatClampNeg) = M (3 + 3) (t * 4 + (M (18 + 1) (t * 5 + 0)).toNatClampNeg)
      · rw [if_pos c2, Nat.pow_succ, Nat.pow_succ] at ih
        have c3 := eq_true c2
        simp (disch := first | assumption | omega) only [e126_0, e126_1, e126_2, e126_5, e126_8, e126_9, e126_12, e126_15, e126_16, e126_19, e126_20, e126_22, e126_25, e126_27, e126_30, e126_32, e126_33, e126_36, e126_37, e126_38, e126_39, e126_41, e126_42, e126_44, e126_45, e126_49, e126_50, e126_53, e126_56, e126_59, e126_60, e126_63, e126_64, e126_66, e126_69, e126_72, e126_73, e126_76, e126_77, e126_80, e126_82, e126_83, e126_86, e126_89, e126_91, e126_93, e126_94, e126_95, e126_96, e126_98, e126_100, e126_102, e126_103, e126_105, e126_108, e126_113, e126_115, e126_118, e126_120, e126_122, e126_125, e126_127, e126_130, e126_132, e126_134, e126_137, e126_139, e126_142, e126_143, e126_144, q_gv0, q_gvs, q_isI1, q_isA1, q_hs0, q_hsn, q_hsi, q_hsr, q_hss, q_inc1, List.set_cons_zero, List.set_cons_succ, ↓reduceIte, q_ss0, q_ssi, q_ssr, q_nr0, q_nr10, q_nr11, q_tlS, q_tlN, q_cl, q_let, q_lef, q_ltt, q_ltf, q_eqt, q_eqf, q_add, q_mul, Nat.reduceAdd, Nat.reduceLeDiff, Nat.reduceEqDiff, eq_self, Nat.zero_le, Nat.le_refl, not_false_eq_true, not_true_eq_false, true_and, and_true, and_self, if_true, if_false, p1.g1, p1.g3, hl.g0, hT, hl.o, hc.o, cl58 h58, cl125 h125, c1, c3, q_sub]
        exact ih
      · rw [if_neg c2] at ih
        have c3 := eq_false c2
        simp (disch := first | assumption | omega) only [e126_0, e126_1, e126_2, e126_5, e126_8, e126_9, e126_12, e126_15, e126_16, e126_19, e126_20, e126_22, e126_25, e126_27, e126_30, e126_32, e126_33, e126_36, e126_37, e126_38, e126_39, e126_41, e126_42, e126_44, e126_45, e126_49, e126_50, e126_53, e126_56, e126_59, e126_60, e126_63, e126_64, e126_66, e126_69, e126_72, e126_73, e126_76, e126_77, e126_80, e126_82, e126_83, e126_86, e126_89, e126_91, e126_93, e126_94, e126_95, e126_96, e126_98, e126_100, e126_102, e126_103, e126_105, e126_108, e126_113, e126_115, e126_118, e126_120, e126_122, e126_125, e126_127, e126_130, e126_132, e126_134, e126_137, e126_139, e126_142, e126_143, e126_144, q_gv0, q_gvs, q_isI1, q_isA1, q_hs0, q_hsn, q_hsi, q_hsr, q_hss, q_inc1, List.set_cons_zero, List.set_cons_succ, ↓reduceIte, q_ss0, q_ssi, q_ssr, q_nr0, q_nr10, q_nr11, q_tlS, q_tlN, q_cl, q_let, q_lef, q_ltt, q_ltf, q_eqt, q_eqf, q_add, q_mul, Nat.reduceAdd, Nat.reduceLeDiff, Nat.reduceEqDiff, eq_self, Nat.zero_le, Nat.le_refl, not_false_eq_true, not_true_eq_false, true_and, and_true, and_self, if_true, if_false, p1.g1, p1.g3, hl.g0, hT, hl.o, hc.o, cl58 h58, cl125 h125, c1, c3]
        exact ih
    · have e : ssB M p w t = 0 := if_neg c1
      rw [e] at ih
      simp (disch := first | assumption | omega) only [e126_0, e126_1, e126_2, e126_5, e126_8, e126_9, e126_12, e126_15, e126_16, e126_19, e126_20, e126_22, e126_25, e126_27, e126_30, e126_32, e126_33, e126_36, e126_37, e126_38, e126_39, e126_41, e126_42, e126_44, e126_45, e126_49, e126_50, e126_53, e126_56, e126_59, e126_60, e126_63, e126_64, e126_66, e126_69, e126_72, e126_73, e126_76, e126_77, e126_80, e126_82, e126_83, e126_86, e126_89, e126_91, e126_93, e126_94, e126_95, e126_96, e126_98, e126_100, e126_102, e126_103, e126_105, e126_108, e126_113, e126_115, e126_118, e126_120, e126_122, e126_125, e126_127, e126_130, e126_132, e126_134, e126_137, e126_139, e126_142, e126_143, e126_144, q_gv0, q_gvs, q_isI1, q_isA1, q_hs0, q_hsn, q_hsi, q_hsr, q_hss, q_inc1, List.set_cons_zero, List.set_cons_succ, ↓reduceIte, q_ss0, q_ssi, q_ssr, q_nr0, q_nr10, q_nr11, q_tlS, q_tlN, q_cl, q_let, q_lef, q_ltt, q_ltf, q_eqt, q_eqf, q_add, q_mul, Nat.reduceAdd, Nat.reduceLeDiff, Nat.reduceEqDiff, eq_self, Nat.zero_le, Nat.le_refl, not_false_eq_true, not_true_eq_false, true_and, and_true, and_self, if_true, if_false, p1.g1, p1.g3, hl.g0, hT, hl.o, hc.o, cl58 h58, c1]
      exact ih
def slX (M : mv_Mem) (p w x : Nat) (y : Int32) : Int32 :=
  if y = nI 0 then nI ((10 - x) ^ ssF M p w (M 3 0).toNatClampNeg / (if 0 < gdF 100 ((10 - x) ^ ssF M p w (M 3 0).toNatClampNeg) (10 ^ ssF M p w (M 3 0).toNatClampNeg) then gdF 100 ((10 - x) ^ ssF M p w (M 3 0).toNatClampNeg) (10 ^ ssF M p w (M 3 0).toNatClampNeg) else 1))
  else nI (10 ^ ssF M p w (M 3 0).toNatClampNeg / (if 0 < gdF 100 ((10 - x) ^ ssF M p w (M 3 0).toNatClampNeg) (10 ^ ssF M p w (M 3 0).toNatClampNeg) then gdF 100 ((10 - x) ^ ssF M p w (M 3 0).toNatClampNeg) (10 ^ ssF M p w (M 3 0).toNatClampNeg) else 1))
theorem gdF_lt : ∀ n a b m, a < m → b < m → gdF n a b < m
  | 0, a, b, m, ha, _ => ha
  | n + 1, a, b, m, ha, hb => by
    unfold gdF
    split
    · exact ha
    · exact gdF_lt n b (a % b) m hb (Nat.lt_trans (Nat.mod_lt _ (by omega)) hb)
theorem pw10 {x c : Nat} (hx : x ≤ 10) (hc : c ≤ 6) : x ^ c ≤ 1000000 := Nat.le_trans (Nat.pow_le_pow_left hx c) (Nat.le_trans (Nat.pow_le_pow_right (by decide) hc) (by decide))
def sp126 : mv_Sp := fun As sh M Q => ∃ (x : Int32) (y : Int32) (z : Int32) (u : Int32), As = [.ref 0, .int x, .int y, .int z, .int u] ∧ ((oX sh) ∧ (gL M 3) ∧ (∀ t, t < 6 → ∃ h, h < 4 ∧ M (18 + 1) (t * 5 + 0) = nI h)) ∧ Q (some (.int (if x < nI 0 then Int32.ofInt (-1) else if M 3 1 ≤ x then Int32.ofInt (-1) else if ¬ y = nI 0 ∧ ¬ y = nI 1 then Int32.ofInt (-1) else if z < nI 0 then Int32.ofInt (-1) else if nI 10 < z then Int32.ofInt (-1) else if u < nI 0 then Int32.ofInt (-1) else if nI 1 < u then Int32.ofInt (-1) else slX M x.toNatClampNeg y.toNatClampNeg z.toNatClampNeg u))) (sh) (M)
theorem cl126 {S : Nat → mv_Sp} (hS : S 126 = sp126) {sh : mv_Shp} {M : mv_Mem} {x : Int32} {y : Int32} {z : Int32} {u : Int32} (p1 : oX sh) (p2 : gL M 3) (p3 : ∀ t, t < 6 → ∃ h, h < 4 ∧ M (18 + 1) (t * 5 + 0) = nI h) {K : mv_Kt} {pc : Nat} {L : mv_Loc} {st : List Value} {cc_ ss_ : Nat} : mv_kal S 126 [.ref 0, .int x, .int y, .int z, .int u] sh M K pc L st cc_ ss_ = K pc L ((some (.int (if x < nI 0 then Int32.ofInt (-1) else if M 3 1 ≤ x then Int32.ofInt (-1) else if ¬ y = nI 0 ∧ ¬ y = nI 1 then Int32.ofInt (-1) else if z < nI 0 then Int32.ofInt (-1) else if nI 10 < z then Int32.ofInt (-1) else if u < nI 0 then Int32.ofInt (-1) else if nI 1 < u then Int32.ofInt (-1) else slX M x.toNatClampNeg y.toNatClampNeg z.toNatClampNeg u)) : Option Value).toList ++ st) (sh) (M) cc_ ss_ := by
  refine q_kal (fun F => q_cali (fun Q => ?_))
  rw [hS]
  constructor
  · rintro ⟨x', y', z', u', hE, ⟨zp1, zp2, zp3⟩, hQ⟩
    simp only [List.cons.injEq, Value.ref.injEq, Value.int.injEq, Value.long.injEq, and_true, true_and] at hE
    obtain ⟨rfl, rfl, rfl, rfl⟩ := hE
    exact hQ
  · intro hQ
    exact ⟨x, y, z, u, rfl, ⟨p1, p2, p3⟩, hQ⟩
theorem ct126 {S : Nat → mv_Sp} (h58 : S 58 = sp58) (h93 : S 93 = sp93) (h107 : S 107 = sp107) (h108 : S 108 = sp108) (h125 : S 125 = sp125) : ∀ As sh M P, sp126 As sh M P → (mv_al0 As).length ≤ 8 ∧ mr126 S P 0 (mv_ent As 8) [] sh M 0 0 := by
  rintro As sh M P ⟨x, y, z, u, rfl, ⟨p1, p2, p3⟩, hQ⟩
  refine ⟨Nat.le_of_ble_eq_true rfl, ?_⟩
  show mr126 S P 0 [some (.ref 0), some (.int x), some (.int y), some (.int z), some (.int u), none, none, none] [] sh M 0 0
  have hl := p1.loom
  have hc := p1.cloth
  obtain ⟨n, hn, hN⟩ := p2.2.1
  rcases i32_c x with c1 | ⟨k, hk, rfl⟩
  · simp only [c1, if_true] at hQ
    simp (disch := first | assumption | omega) only [e126_0, e126_1, e126_2, e126_5, e126_8, e126_9, e126_12, e126_15, e126_16, e126_19, e126_20, e126_22, e126_25, e126_27, e126_30, e126_32, e126_33, e126_36, e126_37, e126_38, e126_39, e126_41, e126_42, e126_44, e126_45, e126_49, e126_50, e126_53, e126_56, e126_59, e126_60, e126_63, e126_64, e126_66, e126_69, e126_72, e126_73, e126_76, e126_77, e126_80, e126_82, e126_83, e126_86, e126_89, e126_91, e126_93, e126_94, e126_95, e126_96, e126_98, e126_100, e126_102, e126_103, e126_105, e126_108, e126_113, e126_115, e126_118, e126_120, e126_122, e126_125, e126_127, e126_130, e126_132, e126_134, e126_137, e126_139, e126_142, e126_143, e126_144, q_gv0, q_gvs, q_isI1, q_isA1, q_hs0, q_hsn, q_hsi, q_hsr, q_hss, q_inc1, List.set_cons_zero, List.set_cons_succ, ↓reduceIte, q_ss0, q_ssi, q_ssr, q_nr0, q_nr10, q_nr11, q_tlS, q_tlN, q_cl, q_let, q_lef, q_ltt, q_ltf, q_eqt, q_eqf, q_add, q_mul, Nat.reduceAdd, Nat.reduceLeDiff, Nat.reduceEqDiff, eq_self, Nat.zero_le, Nat.le_refl, not_false_eq_true, not_true_eq_false, true_and, and_true, and_self, if_true, if_false, p1.o, cl107 h107, c1]
    exact hQ
  have c1 : (nI k < nI 0) = False := q_ltf (by omega) hk
  simp only [c1, if_false] at hQ
  by_cases c2 : n ≤ k
  · have c3 : (nI n ≤ nI k) = True := q_let c2 hk
    simp only [hN, c3, if_true] at hQ
    simp (disch := first | assumption | omega) only [e126_0, e126_1, e126_2, e126_5, e126_8, e126_9, e126_12, e126_15, e126_16, e126_19, e126_20, e126_22, e126_25, e126_27, e126_30, e126_32, e126_33, e126_36, e126_37, e126_38, e126_39, e126_41, e126_42, e126_44, e126_45, e126_49, e126_50, e126_53, e126_56, e126_59, e126_60, e126_63, e126_64, e126_66, e126_69, e126_72, e126_73, e126_76, e126_77, e126_80, e126_82, e126_83, e126_86, e126_89, e126_91, e126_93, e126_94, e126_95, e126_96, e126_98, e126_100, e126_102, e126_103, e126_105, e126_108, e126_113, e126_115, e126_118, e126_120, e126_122, e126_125, e126_127, e126_130, e126_132, e126_134, e126_137, e126_139, e126_142, e126_143, e126_144, q_gv0, q_gvs, q_isI1, q_isA1, q_hs0, q_hsn, q_hsi, q_hsr, q_hss, q_inc1, List.set_cons_zero, List.set_cons_succ, ↓reduceIte, q_ss0, q_ssi, q_ssr, q_nr0, q_nr10, q_nr11, q_tlS, q_tlN, q_cl, q_let, q_lef, q_ltt, q_ltf, q_eqt, q_eqf, q_add, q_mul, Nat.reduceAdd, Nat.reduceLeDiff, Nat.reduceEqDiff, eq_self, Nat.zero_le, Nat.le_refl, not_false_eq_true, not_true_eq_false, true_and, and_true, and_self, if_true, if_false, p1.o, cl107 h107, c1, hN, c3]
    exact hQ
  have c3 : (nI n ≤ nI k) = False := q_lef (by omega) (by omega)
  simp only [hN, c3, if_false, q_cl hk] at hQ
  have k6 : k < 6 := by omega
  rcases way_c y with ⟨w, hw, rfl⟩ | ⟨d0, d1⟩
  · have d2 : ¬ (¬ nI w = nI 0 ∧ ¬ nI w = nI 1) := by
      rcases (show w = 0 ∨ w = 1 by omega) with rfl | rfl
      · exact fun z => z.1 rfl
      · exact fun z => z.2 rfl
    rw [if_neg d2, q_cl (show w < 2147483648 by omega)] at hQ
    have wt := @way_t w hw (nI 1) (nI 0)
    by_cases c4 : z < nI 0
    · rw [if_pos c4] at hQ
      simp (disch := first | assumption | omega) only [e126_0, e126_1, e126_2, e126_5, e126_8, e126_9, e126_12, e126_15, e126_16, e126_19, e126_20, e126_22, e126_25, e126_27, e126_30, e126_32, e126_33, e126_36, e126_37, e126_38, e126_39, e126_41, e126_42, e126_44, e126_45, e126_49, e126_50, e126_53, e126_56, e126_59, e126_60, e126_63, e126_64, e126_66, e126_69, e126_72, e126_73, e126_76, e126_77, e126_80, e126_82, e126_83, e126_86, e126_89, e126_91, e126_93, e126_94, e126_95, e126_96, e126_98, e126_100, e126_102, e126_103, e126_105, e126_108, e126_113, e126_115, e126_118, e126_120, e126_122, e126_125, e126_127, e126_130, e126_132, e126_134, e126_137, e126_139, e126_142, e126_143, e126_144, q_gv0, q_gvs, q_isI1, q_isA1, q_hs0, q_hsn, q_hsi, q_hsr, q_hss, q_inc1, List.set_cons_zero, List.set_cons_succ, ↓reduceIte, q_ss0, q_ssi, q_ssr, q_nr0, q_nr10, q_nr11, q_tlS, q_tlN, q_cl, q_let, q_lef, q_ltt, q_ltf, q_eqt, q_eqf, q_add, q_mul, Nat.reduceAdd, Nat.reduceLeDiff, Nat.reduceEqDiff, eq_self, Nat.zero_le, Nat.le_refl, not_false_eq_true, not_true_eq_false, true_and, and_true, and_self, if_true, if_false, p1.o, cl107 h107, cl108 h108 trivial, c1, hN, c3, wt, c4]
      exact hQ
    rw [if_neg c4] at hQ
    by_cases c5 : nI 10 < z
    · rw [if_pos c5] at hQ
      simp (disch := first | assumption | omega) only [e126_0, e126_1, e126_2, e126_5, e126_8, e126_9, e126_12, e126_15, e126_16, e126_19, e126_20, e126_22, e126_25, e126_27, e126_30, e126_32, e126_33, e126_36, e126_37, e126_38, e126_39, e126_41, e126_42, e126_44, e126_45, e126_49, e126_50, e126_53, e126_56, e126_59, e126_60, e126_63, e126_64, e126_66, e126_69, e126_72, e126_73, e126_76, e126_77, e126_80, e126_82, e126_83, e126_86, e126_89, e126_91, e126_93, e126_94, e126_95, e126_96, e126_98, e126_100, e126_102, e126_103, e126_105, e126_108, e126_113, e126_115, e126_118, e126_120, e126_122, e126_125, e126_127, e126_130, e126_132, e126_134, e126_137, e126_139, e126_142, e126_143, e126_144, q_gv0, q_gvs, q_isI1, q_isA1, q_hs0, q_hsn, q_hsi, q_hsr, q_hss, q_inc1, List.set_cons_zero, List.set_cons_succ, ↓reduceIte, q_ss0, q_ssi, q_ssr, q_nr0, q_nr10, q_nr11, q_tlS, q_tlN, q_cl, q_let, q_lef, q_ltt, q_ltf, q_eqt, q_eqf, q_add, q_mul, Nat.reduceAdd, Nat.reduceLeDiff, Nat.reduceEqDiff, eq_self, Nat.zero_le, Nat.le_refl, not_false_eq_true, not_true_eq_false, true_and, and_true, and_self, if_true, if_false, p1.o, cl107 h107, cl108 h108 trivial, c1, hN, c3, wt, c4, c5]
      exact hQ
    rw [if_neg c5] at hQ
    by_cases c6 : u < nI 0
    · rw [if_pos c6] at hQ
      simp (disch := first | assumption | omega) only [e126_0, e126_1, e126_2, e126_5, e126_8, e126_9, e126_12, e126_15, e126_16, e126_19, e126_20, e126_22, e126_25, e126_27, e126_30, e126_32, e126_33, e126_36, e126_37, e126_38, e126_39, e126_41, e126_42, e126_44, e126_45, e126_49, e126_50, e126_53, e126_56, e126_59, e126_60, e126_63, e126_64, e126_66, e126_69, e126_72, e126_73, e126_76, e126_77, e126_80, e126_82, e126_83, e126_86, e126_89, e126_91, e126_93, e126_94, e126_95, e126_96, e126_98, e126_100, e126_102, e126_103, e126_105, e126_108, e126_113, e126_115, e126_118, e126_120, e126_122, e126_125, e126_127, e126_130, e126_132, e126_134, e126_137, e126_139, e126_142, e126_143, e126_144, q_gv0, q_gvs, q_isI1, q_isA1, q_hs0, q_hsn, q_hsi, q_hsr, q_hss, q_inc1, List.set_cons_zero, List.set_cons_succ, ↓reduceIte, q_ss0, q_ssi, q_ssr, q_nr0, q_nr10, q_nr11, q_tlS, q_tlN, q_cl, q_let, q_lef, q_ltt, q_ltf, q_eqt, q_eqf, q_add, q_mul, Nat.reduceAdd, Nat.reduceLeDiff, Nat.reduceEqDiff, eq_self, Nat.zero_le, Nat.le_refl, not_false_eq_true, not_true_eq_false, true_and, and_true, and_self, if_true, if_false, p1.o, cl107 h107, cl108 h108 trivial, c1, hN, c3, wt, c4, c5, c6]
      exact hQ
    rw [if_neg c6] at hQ
    by_cases c7 : nI 1 < u
    · rw [if_pos c7] at hQ
      have c8 : ¬ u ≤ nI 1 := Int32.not_le.mpr c7
      simp (disch := first | assumption | omega) only [e126_0, e126_1, e126_2, e126_5, e126_8, e126_9, e126_12, e126_15, e126_16, e126_19, e126_20, e126_22, e126_25, e126_27, e126_30, e126_32, e126_33, e126_36, e126_37, e126_38, e126_39, e126_41, e126_42, e126_44, e126_45, e126_49, e126_50, e126_53, e126_56, e126_59, e126_60, e126_63, e126_64, e126_66, e126_69, e126_72, e126_73, e126_76, e126_77, e126_80, e126_82, e126_83, e126_86, e126_89, e126_91, e126_93, e126_94, e126_95, e126_96, e126_98, e126_100, e126_102, e126_103, e126_105, e126_108, e126_113, e126_115, e126_118, e126_120, e126_122, e126_125, e126_127, e126_130, e126_132, e126_134, e126_137, e126_139, e126_142, e126_143, e126_144, q_gv0, q_gvs, q_isI1, q_isA1, q_hs0, q_hsn, q_hsi, q_hsr, q_hss, q_inc1, List.set_cons_zero, List.set_cons_succ, ↓reduceIte, q_ss0, q_ssi, q_ssr, q_nr0, q_nr10, q_nr11, q_tlS, q_tlN, q_cl, q_let, q_lef, q_ltt, q_ltf, q_eqt, q_eqf, q_add, q_mul, Nat.reduceAdd, Nat.reduceLeDiff, Nat.reduceEqDiff, eq_self, Nat.zero_le, Nat.le_refl, not_false_eq_true, not_true_eq_false, true_and, and_true, and_self, if_true, if_false, p1.o, cl107 h107, cl108 h108 trivial, c1, hN, c3, wt, c4, c5, c6, c8]
      exact hQ
    rw [if_neg c7] at hQ
    have c8 : u ≤ nI 1 := Int32.not_lt.mp c7
    rcases i32_c z with d | ⟨q, hq, rfl⟩
    · exact absurd d c4
    have q1 : q ≤ 10 := by
      have : ¬ 10 < q := fun e => c5 ((nI_ltI (by omega) (by omega)).mpr e)
      omega
    rw [q_cl hq] at hQ
    obtain ⟨nT, h6, hT⟩ := p2.1
    unfold slX at hQ
    rw [hT, q_cl (show nT < 2147483648 by omega)] at hQ
    simp (disch := first | assumption | omega) only [e126_0, e126_1, e126_2, e126_5, e126_8, e126_9, e126_12, e126_15, e126_16, e126_19, e126_20, e126_22, e126_25, e126_27, e126_30, e126_32, e126_33, e126_36, e126_37, e126_38, e126_39, e126_41, e126_42, e126_44, e126_45, e126_49, e126_50, e126_53, e126_56, e126_59, e126_60, e126_63, e126_64, e126_66, e126_69, e126_72, e126_73, e126_76, e126_77, e126_80, e126_82, e126_83, e126_86, e126_89, e126_91, e126_93, e126_94, e126_95, e126_96, e126_98, e126_100, e126_102, e126_103, e126_105, e126_108, e126_113, e126_115, e126_118, e126_120, e126_122, e126_125, e126_127, e126_130, e126_132, e126_134, e126_137, e126_139, e126_142, e126_143, e126_144, q_gv0, q_gvs, q_isI1, q_isA1, q_hs0, q_hsn, q_hsi, q_hsr, q_hss, q_inc1, List.set_cons_zero, List.set_cons_succ, ↓reduceIte, q_ss0, q_ssi, q_ssr, q_nr0, q_nr10, q_nr11, q_tlS, q_tlN, q_cl, q_let, q_lef, q_ltt, q_ltf, q_eqt, q_eqf, q_add, q_mul, Nat.reduceAdd, Nat.reduceLeDiff, Nat.reduceEqDiff, eq_self, Nat.zero_le, Nat.le_refl, not_false_eq_true, not_true_eq_false, true_and, and_true, and_self, if_true, if_false, p1.o, cl107 h107, cl108 h108 trivial, c1, hN, c3, wt, c4, c5, c6, c8]
    refine lp126 h58 h125 p1 k6 hw q1 p2 hT h6 p3 (fun v => ?_) nT 0 (by omega)
    have s1 := Nat.le_trans (ssF_le M k w nT) h6
    have a1 := pw10 (show 10 - q ≤ 10 by omega) s1
    have a2 := pw10 (show 10 ≤ 10 by omega) s1
    generalize (10 - q) ^ ssF M k w nT = A at hQ a1 ⊢
    generalize 10 ^ ssF M k w nT = B at hQ a2 ⊢
    have g1 := gdF_lt 100 A B 1000001 (by omega) (by omega)
    have A2 : A < 2147483648 := by omega
    have B2 : B < 2147483648 := by omega
    have cg : mv_kal S 93 [.int (nI A), .int (nI B)] sh M (mr126 S P) 118 [some (.ref 0), some (.int (nI k)), some (.int (nI w)), some (.int (nI q)), some (.int u), some (.int (nI A)), some (.int (nI B)), v] [] 0 0 = mr126 S P 118 [some (.ref 0), some (.int (nI k)), some (.int (nI w)), some (.int (nI q)), some (.int u), some (.int (nI A)), some (.int (nI B)), v] [.int (nI (gdF 100 A B))] sh M 0 0 := cl93 h93 A2 B2
    generalize gdF 100 A B = g at hQ g1 cg ⊢
    by_cases c9 : u = nI 0
    · subst c9
      rw [if_pos rfl] at hQ
      by_cases c10 : 0 < g
      · rw [if_pos c10] at hQ
        simp (disch := first | assumption | omega) only [e126_0, e126_1, e126_2, e126_5, e126_8, e126_9, e126_12, e126_15, e126_16, e126_19, e126_20, e126_22, e126_25, e126_27, e126_30, e126_32, e126_33, e126_36, e126_37, e126_38, e126_39, e126_41, e126_42, e126_44, e126_45, e126_49, e126_50, e126_53, e126_56, e126_59, e126_60, e126_63, e126_64, e126_66, e126_69, e126_72, e126_73, e126_76, e126_77, e126_80, e126_82, e126_83, e126_86, e126_89, e126_91, e126_93, e126_94, e126_95, e126_96, e126_98, e126_100, e126_102, e126_103, e126_105, e126_108, e126_111, e126_113, e126_115, e126_118, e126_120, e126_122, e126_125, e126_127, e126_130, e126_132, e126_134, e126_137, e126_139, e126_142, e126_143, e126_144, q_gv0, q_gvs, q_isI1, q_isA1, q_hs0, q_hsn, q_hsi, q_hsr, q_hss, q_inc1, List.set_cons_zero, List.set_cons_succ, ↓reduceIte, q_ss0, q_ssi, q_ssr, q_nr0, q_nr10, q_nr11, q_tlS, q_tlN, q_cl, q_let, q_lef, q_ltt, q_ltf, q_eqt, q_eqf, q_add, q_mul, Nat.reduceAdd, Nat.reduceLeDiff, Nat.reduceEqDiff, eq_self, Nat.zero_le, Nat.le_refl, not_false_eq_true, not_true_eq_false, true_and, and_true, and_self, if_true, if_false, cg, q_div]
        exact hQ
      · rw [if_neg c10] at hQ
        have g0 : g = 0 := by omega
        subst g0
        simp (disch := first | assumption | omega) only [e126_0, e126_1, e126_2, e126_5, e126_8, e126_9, e126_12, e126_15, e126_16, e126_19, e126_20, e126_22, e126_25, e126_27, e126_30, e126_32, e126_33, e126_36, e126_37, e126_38, e126_39, e126_41, e126_42, e126_44, e126_45, e126_49, e126_50, e126_53, e126_56, e126_59, e126_60, e126_63, e126_64, e126_66, e126_69, e126_72, e126_73, e126_76, e126_77, e126_80, e126_82, e126_83, e126_86, e126_89, e126_91, e126_93, e126_94, e126_95, e126_96, e126_98, e126_100, e126_102, e126_103, e126_105, e126_108, e126_111, e126_113, e126_115, e126_118, e126_120, e126_122, e126_125, e126_127, e126_130, e126_132, e126_134, e126_137, e126_139, e126_142, e126_143, e126_144, q_gv0, q_gvs, q_isI1, q_isA1, q_hs0, q_hsn, q_hsi, q_hsr, q_hss, q_inc1, List.set_cons_zero, List.set_cons_succ, ↓reduceIte, q_ss0, q_ssi, q_ssr, q_nr0, q_nr10, q_nr11, q_tlS, q_tlN, q_cl, q_let, q_lef, q_ltt, q_ltf, q_eqt, q_eqf, q_add, q_mul, Nat.reduceAdd, Nat.reduceLeDiff, Nat.reduceEqDiff, eq_self, Nat.zero_le, Nat.le_refl, not_false_eq_true, not_true_eq_false, true_and, and_true, and_self, if_true, if_false, cg, q_div]
        exact hQ
    · rw [if_neg c9] at hQ
      by_cases c10 : 0 < g
      · rw [if_pos c10] at hQ
        simp (disch := first | assumption | omega) only [e126_0, e126_1, e126_2, e126_5, e126_8, e126_9, e126_12, e126_15, e126_16, e126_19, e126_20, e126_22, e126_25, e126_27, e126_30, e126_32, e126_33, e126_36, e126_37, e126_38, e126_39, e126_41, e126_42, e126_44, e126_45, e126_49, e126_50, e126_53, e126_56, e126_59, e126_60, e126_63, e126_64, e126_66, e126_69, e126_72, e126_73, e126_76, e126_77, e126_80, e126_82, e126_83, e126_86, e126_89, e126_91, e126_93, e126_94, e126_95, e126_96, e126_98, e126_100, e126_102, e126_103, e126_105, e126_108, e126_111, e126_113, e126_115, e126_118, e126_120, e126_122, e126_125, e126_127, e126_130, e126_132, e126_134, e126_137, e126_139, e126_142, e126_143, e126_144, q_gv0, q_gvs, q_isI1, q_isA1, q_hs0, q_hsn, q_hsi, q_hsr, q_hss, q_inc1, List.set_cons_zero, List.set_cons_succ, ↓reduceIte, q_ss0, q_ssi, q_ssr, q_nr0, q_nr10, q_nr11, q_tlS, q_tlN, q_cl, q_let, q_lef, q_ltt, q_ltf, q_eqt, q_eqf, q_add, q_mul, Nat.reduceAdd, Nat.reduceLeDiff, Nat.reduceEqDiff, eq_self, Nat.zero_le, Nat.le_refl, not_false_eq_true, not_true_eq_false, true_and, and_true, and_self, if_true, if_false, cg, c9, q_div]
        exact hQ
      · rw [if_neg c10] at hQ
        have g0 : g = 0 := by omega
        subst g0
        simp (disch := first | assumption | omega) only [e126_0, e126_1, e126_2, e126_5, e126_8, e126_9, e126_12, e126_15, e126_16, e126_19, e126_20, e126_22, e126_25, e126_27, e126_30, e126_32, e126_33, e126_36, e126_37, e126_38, e126_39, e126_41, e126_42, e126_44, e126_45, e126_49, e126_50, e126_53, e126_56, e126_59, e126_60, e126_63, e126_64, e126_66, e126_69, e126_72, e126_73, e126_76, e126_77, e126_80, e126_82, e126_83, e126_86, e126_89, e126_91, e126_93, e126_94, e126_95, e126_96, e126_98, e126_100, e126_102, e126_103, e126_105, e126_108, e126_111, e126_113, e126_115, e126_118, e126_120, e126_122, e126_125, e126_127, e126_130, e126_132, e126_134, e126_137, e126_139, e126_142, e126_143, e126_144, q_gv0, q_gvs, q_isI1, q_isA1, q_hs0, q_hsn, q_hsi, q_hsr, q_hss, q_inc1, List.set_cons_zero, List.set_cons_succ, ↓reduceIte, q_ss0, q_ssi, q_ssr, q_nr0, q_nr10, q_nr11, q_tlS, q_tlN, q_cl, q_let, q_lef, q_ltt, q_ltf, q_eqt, q_eqf, q_add, q_mul, Nat.reduceAdd, Nat.reduceLeDiff, Nat.reduceEqDiff, eq_self, Nat.zero_le, Nat.le_refl, not_false_eq_true, not_true_eq_false, true_and, and_true, and_self, if_true, if_false, cg, c9, q_div]
        exact hQ
  · rw [if_pos ⟨d0, d1⟩] at hQ
    simp (disch := first | assumption | omega) only [e126_0, e126_1, e126_2, e126_5, e126_8, e126_9, e126_12, e126_15, e126_16, e126_19, e126_20, e126_22, e126_25, e126_27, e126_30, e126_32, e126_33, e126_36, e126_37, e126_38, e126_39, e126_41, e126_42, e126_44, e126_45, e126_49, e126_50, e126_53, e126_56, e126_59, e126_60, e126_63, e126_64, e126_66, e126_69, e126_72, e126_73, e126_76, e126_77, e126_80, e126_82, e126_83, e126_86, e126_89, e126_91, e126_93, e126_94, e126_95, e126_96, e126_98, e126_100, e126_102, e126_103, e126_105, e126_108, e126_113, e126_115, e126_118, e126_120, e126_122, e126_125, e126_127, e126_130, e126_132, e126_134, e126_137, e126_139, e126_142, e126_143, e126_144, q_gv0, q_gvs, q_isI1, q_isA1, q_hs0, q_hsn, q_hsi, q_hsr, q_hss, q_inc1, List.set_cons_zero, List.set_cons_succ, ↓reduceIte, q_ss0, q_ssi, q_ssr, q_nr0, q_nr10, q_nr11, q_tlS, q_tlN, q_cl, q_let, q_lef, q_ltt, q_ltf, q_eqt, q_eqf, q_add, q_mul, Nat.reduceAdd, Nat.reduceLeDiff, Nat.reduceEqDiff, eq_self, Nat.zero_le, Nat.le_refl, not_false_eq_true, not_true_eq_false, true_and, and_true, and_self, if_true, if_false, p1.o, cl107 h107, cl108 h108 trivial, c1, hN, c3, d0, d1]
    exact hQ
