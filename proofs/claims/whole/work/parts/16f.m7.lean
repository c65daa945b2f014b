/-! the model: a draft told -/
def dmF (T : Nat → Nat) (nP : Nat) : Nat → Nat → Nat → (Nat → Int32) → Nat × Nat × Nat × (Nat → Int32)
  | 0, k, p, d => (1, p, k, d)
  | n + 1, k, p, d => if fgF T p = 0 then (1, p, k, d) else if nP < fgF T p then (0, p, k, d)
    else if T (p + 1) = 102 then (if k = 8 then (0, p, k, d) else dmF T nP n (k + 1) (p + 1 + 1) (upd d k (nI (10 * (fgF T p - 1) + 0))))
    else if T (p + 1) = 98 then (if k = 8 then (0, p, k, d) else dmF T nP n (k + 1) (p + 1 + 1) (upd d k (nI (10 * (fgF T p - 1) + 1))))
    else (0, p, k, d)
theorem dmF_01 (T : Nat → Nat) (nP : Nat) : ∀ n k p d, (dmF T nP n k p d).1 = 0 ∨ (dmF T nP n k p d).1 = 1
  | 0, _, _, _ => Or.inr rfl
  | n + 1, k, p, d => by
    unfold dmF
    split
    · exact Or.inr rfl
    split
    · exact Or.inl rfl
    split
    · split
      · exact Or.inl rfl
      · exact dmF_01 T nP n _ _ _
    split
    · split
      · exact Or.inl rfl
      · exact dmF_01 T nP n _ _ _
    · exact Or.inl rfl
/-- the model's memory while a draft is read -/
def dmM (M : mv_Mem) (k p : Nat) (d : Nat → Int32) : mv_Mem := mv_up (mv_up (mv_wr M 14 d) 0 26 (nI k)) 0 17 (nI p)
theorem dmM_step {M : mv_Mem} {k p q : Nat} {d : Nat → Int32} {v : Int32} : mv_up (mv_up (mv_up (dmM M k p d) 0 17 (nI q)) 14 k v) 0 26 (nI (k + 1)) = dmM M (k + 1) q (upd d k v) := by
  unfold dmM
  funext c j
  by_cases hc : c = 0
  · subst hc
    by_cases h1 : j = 26
    · subst h1
      rw [q_upS, q_upN (by decide), q_upS]
    · rw [q_upN (by omega), q_upO (by decide)]
      by_cases h2 : j = 17
      · subst h2
        rw [q_upS, q_upS]
      · rw [q_upN (by omega), q_upN (by omega), q_upN (by omega), q_upN (by omega), q_upN (by omega), q_wrO (by decide), q_wrO (by decide)]
  · rw [q_upO hc]
    by_cases h3 : c = 14
    · subst h3
      by_cases hj : j = k
      · subst hj
        rw [q_upS, q_upO (by decide), q_upO (by decide), q_wrS]
        simp [upd]
      · rw [q_upN (fun z => hj z.2), q_upO (by decide), q_upO (by decide), q_upO (by decide), q_wrS, q_upO (by decide), q_upO (by decide), q_wrS]
        simp [upd, hj]
    · rw [q_upO h3, q_upO hc, q_upO hc, q_upO hc, q_upO hc, q_upO hc, q_wrO h3, q_wrO h3]
theorem dmM_rd {M : mv_Mem} {k p : Nat} {d : Nat → Int32} : rdE M (dmM M k p d) := by
  unfold dmM
  refine rdE_0 (rdE_0 ⟨fun b x y => q_wrO (by omega), fun j _ _ _ _ _ _ => by rw [q_wrO (by decide)]⟩ (by decide)) (by decide)
def dmE (M N : mv_Mem) (k : Nat) (d : Nat → Int32) : Prop := N 0 26 = nI k ∧ N 0 19 = M 0 19 ∧ N 0 23 = M 0 23 ∧ N 0 25 = M 0 25 ∧ N 14 = d ∧ N 10 = M 10 ∧ N 11 = M 11 ∧ N 12 = M 12 ∧ N 13 = M 13
theorem dmM_E {M : mv_Mem} {k p : Nat} {d : Nat → Int32} : dmE M (dmM M k p d) k d := by
  unfold dmM
  refine ⟨by rw [q_upN (by decide), q_upS], ?_, ?_, ?_, ?_, ?_, ?_, ?_, ?_⟩
  · rw [q_upN (by decide), q_upN (by decide), q_wrO (by decide)]
  · rw [q_upN (by decide), q_upN (by decide), q_wrO (by decide)]
  · rw [q_upN (by decide), q_upN (by decide), q_wrO (by decide)]
  · rw [q_upO (by decide), q_upO (by decide), q_wrS]
  · rw [q_upO (by decide), q_upO (by decide), q_wrO (by decide)]
  · rw [q_upO (by decide), q_upO (by decide), q_wrO (by decide)]
  · rw [q_upO (by decide), q_upO (by decide), q_wrO (by decide)]
  · rw [q_upO (by decide), q_upO (by decide), q_wrO (by decide)]
theorem lp151 {S : Nat → mv_Sp} (h145 : S 145 = sp145) {sh : mv_Shp} {M : mv_Mem} {P : mv_Post} {nP : Nat} {T : Nat → Nat} (p1 : oM sh) (p2 : tY M) (hT : ly M = T) (hN : M 0 23 = nI nP) (hn6 : nP ≤ 6) :
    ∀ n k p d y1 y2 y3, 300 ≤ p + n → p < 300 → k ≤ 8 → ((dmF T nP n k p d).1 = 0 → ∀ N, rdE M N → P (some (.int (nI 0))) sh N) →
      ((dmF T nP n k p d).1 = 1 → ∀ y1 y2 y3, (dmF T nP n k p d).2.1 < 300 → (dmF T nP n k p d).2.2.1 ≤ 8 → mr151 S P 170 [some (.ref 0), y1, y2, y3] [] sh (dmM M (dmF T nP n k p d).2.2.1 (dmF T nP n k p d).2.1 (dmF T nP n k p d).2.2.2) 0 0) →
      mr151 S P 5 [some (.ref 0), y1, y2, y3] [] sh (dmM M k p d) 0 0
  | 0, k, p, d, y1, y2, y3, h, hp, hk, k0, k1 => absurd h (by omega)
  | n + 1, k, p, d, y1, y2, y3, h, hp, hk, k0, k1 => by
    have r1 : rdE M (dmM M k p d) := dmM_rd
    have t1 := rdE_tY r1 p2
    have l1 := (rdE_ly r1).trans hT
    have w := @fgY_end _ p2 p
    have w' := ly_iff p2 (p + 1)
    have w'' := @ly_at _ p2 (p + 1)
    have lt' := ly_lt p2 (p + 1)
    rw [hT] at w w' w'' lt'
    have f10 := fgF_le T p
    have q17 : dmM M k p d 0 17 = nI p := q_upS
    have q26 : dmM M k p d 0 26 = nI k := by unfold dmM; rw [q_upN (by decide), q_upS]
    have q23 : dmM M k p d 0 23 = nI nP := by rw [dmM_E.2.2.1]; exact hN
    have q7 : dmM M k p d 7 = M 7 := r1.1 7 (by decide) (by decide)
    obtain ⟨l, hl, hL, -⟩ := id p2
    have q13 : dmM M k p d 0 13 = nI l := by rw [r1.2 13 (by decide) (by decide) (by decide) (by decide) (by decide) (by decide)]; exact hL
    rw [hL, q_cl (show l < 2147483648 by omega)] at w' w''
    have rs : ∀ {x : Int32}, rdE M (mv_up (dmM M k p d) 0 17 x) := rdE_0 r1 (by decide)
    unfold dmF at k0 k1
    rw [e151_5]
    by_cases c1 : fgF T p = 0
    · rw [if_pos c1] at k1
      simp (disch := first | assumption | omega) only [e151_0, e151_1, e151_2, e151_6, e151_9, e151_12, e151_13, e151_16, e151_17, e151_20, e151_21, e151_23, e151_24, e151_25, e151_26, e151_26r, e151_27, e151_30, e151_31, e151_32, e151_35, e151_36, e151_39, e151_40, e151_43, e151_46, e151_47, e151_50, e151_51, e151_54, e151_55, e151_57, e151_60, e151_61, e151_64, e151_65, e151_66, e151_67, e151_70, e151_71, e151_74, e151_77, e151_78, e151_81, e151_82, e151_85, e151_86, e151_88, e151_91, e151_92, e151_95, e151_96, e151_97, e151_98, e151_99, e151_102, e151_105, e151_106, e151_109, e151_110, e151_113, e151_114, e151_117, e151_119, e151_122, e151_123, e151_124, e151_125, e151_125r, e151_126, e151_129, e151_130, e151_131, e151_134, e151_135, e151_138, e151_139, e151_142, e151_144, e151_145, e151_146, e151_147, e151_150, e151_151, e151_154, e151_155, e151_156, e151_157, e151_158, e151_158r, e151_159, e151_162, e151_163, e151_164, e151_167, e151_171, e151_174, e151_177, e151_178, e151_181, e151_182, q_gv0, q_gvs, q_isI1, q_isA1, q_hs0, q_hsn, q_hsi, q_hsr, q_hss, q_inc1, List.set_cons_zero, List.set_cons_succ, ↓reduceIte, q_ss0, q_ssi, q_ssr, q_nr0, q_nr10, q_nr11, q_tlS, q_tlN, q_cl, q_let, q_lef, q_ltt, q_ltf, q_eqt, q_eqf, q_add, q_mul, Nat.reduceAdd, Nat.reduceLeDiff, Nat.reduceEqDiff, eq_self, Nat.zero_le, Nat.le_refl, not_false_eq_true, not_true_eq_false, true_and, and_true, and_self, if_true, if_false, p1.o, cr145 h145 p1 t1 l1 q17 (show p < 1000 by omega), c1]
      exact k1 rfl _ _ _ hp hk
    obtain ⟨w1, w2, w3⟩ := w c1
    rw [if_neg c1] at k0 k1
    have s1 : fgF T p + 47 - 48 = fgF T p - 1 := by omega
    have hgo : ∀ (v : Nat), v < 2 → (∀ N, rdE M N → True) → True := fun _ _ _ => trivial
    by_cases c4 : T (p + 1) = 102
    · have a1 : p + 1 < l := w'.mp (by rw [c4]; decide)
      have a2 := w'' a1
      have a3 : p + 1 < 200 := by omega
      rw [c4] at a2
      by_cases c2 : nP < fgF T p
      · rw [if_pos c2] at k0
        have c3 : nP ≤ fgF T p - 1 := by omega
        simp (disch := first | assumption | omega) only [e151_0, e151_1, e151_2, e151_6, e151_9, e151_12, e151_13, e151_16, e151_17, e151_20, e151_21, e151_23, e151_24, e151_25, e151_26, e151_26r, e151_27, e151_30, e151_31, e151_32, e151_35, e151_36, e151_39, e151_40, e151_43, e151_46, e151_47, e151_50, e151_51, e151_54, e151_55, e151_57, e151_60, e151_61, e151_64, e151_65, e151_66, e151_67, e151_70, e151_71, e151_74, e151_77, e151_78, e151_81, e151_82, e151_85, e151_86, e151_88, e151_91, e151_92, e151_95, e151_96, e151_97, e151_98, e151_99, e151_102, e151_105, e151_106, e151_109, e151_110, e151_113, e151_114, e151_117, e151_119, e151_122, e151_123, e151_124, e151_125, e151_125r, e151_126, e151_129, e151_130, e151_131, e151_134, e151_135, e151_138, e151_139, e151_142, e151_144, e151_145, e151_146, e151_147, e151_150, e151_151, e151_154, e151_155, e151_156, e151_157, e151_158, e151_158r, e151_159, e151_162, e151_163, e151_164, e151_167, e151_171, e151_174, e151_177, e151_178, e151_181, e151_182, e151_26r, q_gv0, q_gvs, q_isI1, q_isA1, q_hs0, q_hsn, q_hsi, q_hsr, q_hss, q_inc1, List.set_cons_zero, List.set_cons_succ, ↓reduceIte, q_ss0, q_ssi, q_ssr, q_nr0, q_nr10, q_nr11, q_tlS, q_tlN, q_cl, q_let, q_lef, q_ltt, q_ltf, q_eqt, q_eqf, q_add, q_mul, Nat.reduceAdd, Nat.reduceLeDiff, Nat.reduceEqDiff, eq_self, Nat.zero_le, Nat.le_refl, not_false_eq_true, not_true_eq_false, true_and, and_true, and_self, if_true, if_false, p1.o, p1.g12, p1.g13, p1.g17, p1.g23, p1.l7, p1.p17, cr145 h145 p1 t1 l1 q17 (show p < 1000 by omega), c1, q17, q13, q23, q7, q_upS, q_upN, q_upO, w3, q_sub, s1, a2]
        exact k0 rfl _ rs
      rw [if_neg c2, if_pos c4] at k0 k1
      by_cases c8 : k = 8
      · rw [if_pos c8] at k0
        simp (disch := first | assumption | omega) only [e151_0, e151_1, e151_2, e151_6, e151_9, e151_12, e151_13, e151_16, e151_17, e151_20, e151_21, e151_23, e151_24, e151_25, e151_26, e151_26r, e151_27, e151_30, e151_31, e151_32, e151_35, e151_36, e151_39, e151_40, e151_43, e151_46, e151_47, e151_50, e151_51, e151_54, e151_55, e151_57, e151_60, e151_61, e151_64, e151_65, e151_66, e151_67, e151_70, e151_71, e151_74, e151_77, e151_78, e151_81, e151_82, e151_85, e151_86, e151_88, e151_91, e151_92, e151_95, e151_96, e151_97, e151_98, e151_99, e151_102, e151_105, e151_106, e151_109, e151_110, e151_113, e151_114, e151_117, e151_119, e151_122, e151_123, e151_124, e151_125, e151_125r, e151_126, e151_129, e151_130, e151_131, e151_134, e151_135, e151_138, e151_139, e151_142, e151_144, e151_145, e151_146, e151_147, e151_150, e151_151, e151_154, e151_155, e151_156, e151_157, e151_158, e151_158r, e151_159, e151_162, e151_163, e151_164, e151_167, e151_171, e151_174, e151_177, e151_178, e151_181, e151_182, e151_26r, q_gv0, q_gvs, q_isI1, q_isA1, q_hs0, q_hsn, q_hsi, q_hsr, q_hss, q_inc1, List.set_cons_zero, List.set_cons_succ, ↓reduceIte, q_ss0, q_ssi, q_ssr, q_nr0, q_nr10, q_nr11, q_tlS, q_tlN, q_cl, q_let, q_lef, q_ltt, q_ltf, q_eqt, q_eqf, q_add, q_mul, Nat.reduceAdd, Nat.reduceLeDiff, Nat.reduceEqDiff, eq_self, Nat.zero_le, Nat.le_refl, not_false_eq_true, not_true_eq_false, true_and, and_true, and_self, if_true, if_false, p1.o, p1.g12, p1.g13, p1.g17, p1.g23, p1.g26, p1.l7, p1.p17, cr145 h145 p1 t1 l1 q17 (show p < 1000 by omega), c1, q17, q13, q23, q26, q7, q_upS, q_upN, q_upO, w3, q_sub, s1, a2]
        exact k0 rfl _ rs
      rw [if_neg c8] at k0 k1
      simp (disch := first | assumption | omega) only [e151_0, e151_1, e151_2, e151_6, e151_9, e151_12, e151_13, e151_16, e151_17, e151_20, e151_21, e151_23, e151_24, e151_25, e151_26, e151_26r, e151_27, e151_30, e151_31, e151_32, e151_35, e151_36, e151_39, e151_40, e151_43, e151_46, e151_47, e151_50, e151_51, e151_54, e151_55, e151_57, e151_60, e151_61, e151_64, e151_65, e151_66, e151_67, e151_70, e151_71, e151_74, e151_77, e151_78, e151_81, e151_82, e151_85, e151_86, e151_88, e151_91, e151_92, e151_95, e151_96, e151_97, e151_98, e151_99, e151_102, e151_105, e151_106, e151_109, e151_110, e151_113, e151_114, e151_117, e151_119, e151_122, e151_123, e151_124, e151_125, e151_125r, e151_126, e151_129, e151_130, e151_131, e151_134, e151_135, e151_138, e151_139, e151_142, e151_144, e151_145, e151_146, e151_147, e151_150, e151_151, e151_154, e151_155, e151_156, e151_157, e151_158, e151_158r, e151_159, e151_162, e151_163, e151_164, e151_167, e151_171, e151_174, e151_177, e151_178, e151_181, e151_182, e151_26r, e151_125r, e151_158r, q_gv0, q_gvs, q_isI1, q_isA1, q_hs0, q_hsn, q_hsi, q_hsr, q_hss, q_inc1, List.set_cons_zero, List.set_cons_succ, ↓reduceIte, q_ss0, q_ssi, q_ssr, q_nr0, q_nr10, q_nr11, q_tlS, q_tlN, q_cl, q_let, q_lef, q_ltt, q_ltf, q_eqt, q_eqf, q_add, q_mul, Nat.reduceAdd, Nat.reduceLeDiff, Nat.reduceEqDiff, eq_self, Nat.zero_le, Nat.le_refl, not_false_eq_true, not_true_eq_false, true_and, and_true, and_self, if_true, if_false, p1.o, p1.g12, p1.g13, p1.g17, p1.g23, p1.g26, p1.g27, p1.l7, p1.p17, p1.p26, p1.s14, cr145 h145 p1 t1 l1 q17 (show p < 1000 by omega), c1, q17, q13, q23, q26, q7, q_upS, q_upN, q_upO, w3, q_sub, s1, a2, q_upup, dmM_step]
      exact lp151 h145 p1 p2 hT hN hn6 n (k + 1) (p + 1 + 1) _ _ _ _ (by omega) (by omega) (by omega) k0 k1
    by_cases c5 : T (p + 1) = 98
    · have a1 : p + 1 < l := w'.mp (by rw [c5]; decide)
      have a2 := w'' a1
      have a3 : p + 1 < 200 := by omega
      rw [c5] at a2
      by_cases c2 : nP < fgF T p
      · rw [if_pos c2] at k0
        have c3 : nP ≤ fgF T p - 1 := by omega
        simp (disch := first | assumption | omega) only [e151_0, e151_1, e151_2, e151_6, e151_9, e151_12, e151_13, e151_16, e151_17, e151_20, e151_21, e151_23, e151_24, e151_25, e151_26, e151_26r, e151_27, e151_30, e151_31, e151_32, e151_35, e151_36, e151_39, e151_40, e151_43, e151_46, e151_47, e151_50, e151_51, e151_54, e151_55, e151_57, e151_60, e151_61, e151_64, e151_65, e151_66, e151_67, e151_70, e151_71, e151_74, e151_77, e151_78, e151_81, e151_82, e151_85, e151_86, e151_88, e151_91, e151_92, e151_95, e151_96, e151_97, e151_98, e151_99, e151_102, e151_105, e151_106, e151_109, e151_110, e151_113, e151_114, e151_117, e151_119, e151_122, e151_123, e151_124, e151_125, e151_125r, e151_126, e151_129, e151_130, e151_131, e151_134, e151_135, e151_138, e151_139, e151_142, e151_144, e151_145, e151_146, e151_147, e151_150, e151_151, e151_154, e151_155, e151_156, e151_157, e151_158, e151_158r, e151_159, e151_162, e151_163, e151_164, e151_167, e151_171, e151_174, e151_177, e151_178, e151_181, e151_182, e151_26r, q_gv0, q_gvs, q_isI1, q_isA1, q_hs0, q_hsn, q_hsi, q_hsr, q_hss, q_inc1, List.set_cons_zero, List.set_cons_succ, ↓reduceIte, q_ss0, q_ssi, q_ssr, q_nr0, q_nr10, q_nr11, q_tlS, q_tlN, q_cl, q_let, q_lef, q_ltt, q_ltf, q_eqt, q_eqf, q_add, q_mul, Nat.reduceAdd, Nat.reduceLeDiff, Nat.reduceEqDiff, eq_self, Nat.zero_le, Nat.le_refl, not_false_eq_true, not_true_eq_false, true_and, and_true, and_self, if_true, if_false, p1.o, p1.g12, p1.g13, p1.g17, p1.g23, p1.l7, p1.p17, cr145 h145 p1 t1 l1 q17 (show p < 1000 by omega), c1, q17, q13, q23, q7, q_upS, q_upN, q_upO, w3, q_sub, s1, a2]
        exact k0 rfl _ rs
      rw [if_neg c2, if_neg c4, if_pos c5] at k0 k1
      by_cases c8 : k = 8
      · rw [if_pos c8] at k0
        simp (disch := first | assumption | omega) only [e151_0, e151_1, e151_2, e151_6, e151_9, e151_12, e151_13, e151_16, e151_17, e151_20, e151_21, e151_23, e151_24, e151_25, e151_26, e151_26r, e151_27, e151_30, e151_31, e151_32, e151_35, e151_36, e151_39, e151_40, e151_43, e151_46, e151_47, e151_50, e151_51, e151_54, e151_55, e151_57, e151_60, e151_61, e151_64, e151_65, e151_66, e151_67, e151_70, e151_71, e151_74, e151_77, e151_78, e151_81, e151_82, e151_85, e151_86, e151_88, e151_91, e151_92, e151_95, e151_96, e151_97, e151_98, e151_99, e151_102, e151_105, e151_106, e151_109, e151_110, e151_113, e151_114, e151_117, e151_119, e151_122, e151_123, e151_124, e151_125, e151_125r, e151_126, e151_129, e151_130, e151_131, e151_134, e151_135, e151_138, e151_139, e151_142, e151_144, e151_145, e151_146, e151_147, e151_150, e151_151, e151_154, e151_155, e151_156, e151_157, e151_158, e151_158r, e151_159, e151_162, e151_163, e151_164, e151_167, e151_171, e151_174, e151_177, e151_178, e151_181, e151_182, e151_26r, q_gv0, q_gvs, q_isI1, q_isA1, q_hs0, q_hsn, q_hsi, q_hsr, q_hss, q_inc1, List.set_cons_zero, List.set_cons_succ, ↓reduceIte, q_ss0, q_ssi, q_ssr, q_nr0, q_nr10, q_nr11, q_tlS, q_tlN, q_cl, q_let, q_lef, q_ltt, q_ltf, q_eqt, q_eqf, q_add, q_mul, Nat.reduceAdd, Nat.reduceLeDiff, Nat.reduceEqDiff, eq_self, Nat.zero_le, Nat.le_refl, not_false_eq_true, not_true_eq_false, true_and, and_true, and_self, if_true, if_false, p1.o, p1.g12, p1.g13, p1.g17, p1.g23, p1.g26, p1.l7, p1.p17, cr145 h145 p1 t1 l1 q17 (show p < 1000 by omega), c1, q17, q13, q23, q26, q7, q_upS, q_upN, q_upO, w3, q_sub, s1, a2]
        exact k0 rfl _ rs
      rw [if_neg c8] at k0 k1
      simp (disch := first | assumption | omega) only [e151_0, e151_1, e151_2, e151_6, e151_9, e151_12, e151_13, e151_16, e151_17, e151_20, e151_21, e151_23, e151_24, e151_25, e151_26, e151_26r, e151_27, e151_30, e151_31, e151_32, e151_35, e151_36, e151_39, e151_40, e151_43, e151_46, e151_47, e151_50, e151_51, e151_54, e151_55, e151_57, e151_60, e151_61, e151_64, e151_65, e151_66, e151_67, e151_70, e151_71, e151_74, e151_77, e151_78, e151_81, e151_82, e151_85, e151_86, e151_88, e151_91, e151_92, e151_95, e151_96, e151_97, e151_98, e151_99, e151_102, e151_105, e151_106, e151_109, e151_110, e151_113, e151_114, e151_117, e151_119, e151_122, e151_123, e151_124, e151_125, e151_125r, e151_126, e151_129, e151_130, e151_131, e151_134, e151_135, e151_138, e151_139, e151_142, e151_144, e151_145, e151_146, e151_147, e151_150, e151_151, e151_154, e151_155, e151_156, e151_157, e151_158, e151_158r, e151_159, e151_162, e151_163, e151_164, e151_167, e151_171, e151_174, e151_177, e151_178, e151_181, e151_182, e151_26r, e151_125r, e151_158r, q_gv0, q_gvs, q_isI1, q_isA1, q_hs0, q_hsn, q_hsi, q_hsr, q_hss, q_inc1, List.set_cons_zero, List.set_cons_succ, ↓reduceIte, q_ss0, q_ssi, q_ssr, q_nr0, q_nr10, q_nr11, q_tlS, q_tlN, q_cl, q_let, q_lef, q_ltt, q_ltf, q_eqt, q_eqf, q_add, q_mul, Nat.reduceAdd, Nat.reduceLeDiff, Nat.reduceEqDiff, eq_self, Nat.zero_le, Nat.le_refl, not_false_eq_true, not_true_eq_false, true_and, and_true, and_self, if_true, if_false, p1.o, p1.g12, p1.g13, p1.g17, p1.g23, p1.g26, p1.g27, p1.l7, p1.p17, p1.p26, p1.s14, cr145 h145 p1 t1 l1 q17 (show p < 1000 by omega), c1, q17, q13, q23, q26, q7, q_upS, q_upN, q_upO, w3, q_sub, s1, a2, q_upup, dmM_step]
      exact lp151 h145 p1 p2 hT hN hn6 n (k + 1) (p + 1 + 1) _ _ _ _ (by omega) (by omega) (by omega) k0 k1
    · have k2 : ∀ N, rdE M N → P (some (.int (nI 0))) sh N := by
        by_cases c2 : nP < fgF T p
        · rw [if_pos c2] at k0
          exact k0 rfl
        · rw [if_neg c2, if_neg c4, if_neg c5] at k0
          exact k0 rfl
      by_cases a1 : p + 1 < l
      · have a2 := w'' a1
        have a3 : p + 1 < 200 := by omega
        by_cases c2 : nP ≤ fgF T p - 1
        · simp (disch := first | assumption | omega) only [e151_0, e151_1, e151_2, e151_6, e151_9, e151_12, e151_13, e151_16, e151_17, e151_20, e151_21, e151_23, e151_24, e151_25, e151_26, e151_26r, e151_27, e151_30, e151_31, e151_32, e151_35, e151_36, e151_39, e151_40, e151_43, e151_46, e151_47, e151_50, e151_51, e151_54, e151_55, e151_57, e151_60, e151_61, e151_64, e151_65, e151_66, e151_67, e151_70, e151_71, e151_74, e151_77, e151_78, e151_81, e151_82, e151_85, e151_86, e151_88, e151_91, e151_92, e151_95, e151_96, e151_97, e151_98, e151_99, e151_102, e151_105, e151_106, e151_109, e151_110, e151_113, e151_114, e151_117, e151_119, e151_122, e151_123, e151_124, e151_125, e151_125r, e151_126, e151_129, e151_130, e151_131, e151_134, e151_135, e151_138, e151_139, e151_142, e151_144, e151_145, e151_146, e151_147, e151_150, e151_151, e151_154, e151_155, e151_156, e151_157, e151_158, e151_158r, e151_159, e151_162, e151_163, e151_164, e151_167, e151_171, e151_174, e151_177, e151_178, e151_181, e151_182, e151_26r, q_gv0, q_gvs, q_isI1, q_isA1, q_hs0, q_hsn, q_hsi, q_hsr, q_hss, q_inc1, List.set_cons_zero, List.set_cons_succ, ↓reduceIte, q_ss0, q_ssi, q_ssr, q_nr0, q_nr10, q_nr11, q_tlS, q_tlN, q_cl, q_let, q_lef, q_ltt, q_ltf, q_eqt, q_eqf, q_add, q_mul, Nat.reduceAdd, Nat.reduceLeDiff, Nat.reduceEqDiff, eq_self, Nat.zero_le, Nat.le_refl, not_false_eq_true, not_true_eq_false, true_and, and_true, and_self, if_true, if_false, p1.o, p1.g12, p1.g13, p1.g17, p1.g23, p1.l7, p1.p17, cr145 h145 p1 t1 l1 q17 (show p < 1000 by omega), c1, q17, q13, q23, q7, q_upS, q_upN, q_upO, w3, q_sub, s1, a2]
          exact k2 _ rs
        · simp (disch := first | assumption | omega) only [e151_0, e151_1, e151_2, e151_6, e151_9, e151_12, e151_13, e151_16, e151_17, e151_20, e151_21, e151_23, e151_24, e151_25, e151_26, e151_26r, e151_27, e151_30, e151_31, e151_32, e151_35, e151_36, e151_39, e151_40, e151_43, e151_46, e151_47, e151_50, e151_51, e151_54, e151_55, e151_57, e151_60, e151_61, e151_64, e151_65, e151_66, e151_67, e151_70, e151_71, e151_74, e151_77, e151_78, e151_81, e151_82, e151_85, e151_86, e151_88, e151_91, e151_92, e151_95, e151_96, e151_97, e151_98, e151_99, e151_102, e151_105, e151_106, e151_109, e151_110, e151_113, e151_114, e151_117, e151_119, e151_122, e151_123, e151_124, e151_125, e151_125r, e151_126, e151_129, e151_130, e151_131, e151_134, e151_135, e151_138, e151_139, e151_142, e151_144, e151_145, e151_146, e151_147, e151_150, e151_151, e151_154, e151_155, e151_156, e151_157, e151_158, e151_158r, e151_159, e151_162, e151_163, e151_164, e151_167, e151_171, e151_174, e151_177, e151_178, e151_181, e151_182, e151_26r, q_gv0, q_gvs, q_isI1, q_isA1, q_hs0, q_hsn, q_hsi, q_hsr, q_hss, q_inc1, List.set_cons_zero, List.set_cons_succ, ↓reduceIte, q_ss0, q_ssi, q_ssr, q_nr0, q_nr10, q_nr11, q_tlS, q_tlN, q_cl, q_let, q_lef, q_ltt, q_ltf, q_eqt, q_eqf, q_add, q_mul, Nat.reduceAdd, Nat.reduceLeDiff, Nat.reduceEqDiff, eq_self, Nat.zero_le, Nat.le_refl, not_false_eq_true, not_true_eq_false, true_and, and_true, and_self, if_true, if_false, p1.o, p1.g12, p1.g13, p1.g17, p1.g23, p1.l7, p1.p17, cr145 h145 p1 t1 l1 q17 (show p < 1000 by omega), c1, q17, q13, q23, q7, q_upS, q_upN, q_upO, w3, q_sub, s1, a2]
          exact k2 _ rs
      · by_cases c2 : nP ≤ fgF T p - 1
        · simp (disch := first | assumption | omega) only [e151_0, e151_1, e151_2, e151_6, e151_9, e151_12, e151_13, e151_16, e151_17, e151_20, e151_21, e151_23, e151_24, e151_25, e151_26, e151_26r, e151_27, e151_30, e151_31, e151_32, e151_35, e151_36, e151_39, e151_40, e151_43, e151_46, e151_47, e151_50, e151_51, e151_54, e151_55, e151_57, e151_60, e151_61, e151_64, e151_65, e151_66, e151_67, e151_70, e151_71, e151_74, e151_77, e151_78, e151_81, e151_82, e151_85, e151_86, e151_88, e151_91, e151_92, e151_95, e151_96, e151_97, e151_98, e151_99, e151_102, e151_105, e151_106, e151_109, e151_110, e151_113, e151_114, e151_117, e151_119, e151_122, e151_123, e151_124, e151_125, e151_125r, e151_126, e151_129, e151_130, e151_131, e151_134, e151_135, e151_138, e151_139, e151_142, e151_144, e151_145, e151_146, e151_147, e151_150, e151_151, e151_154, e151_155, e151_156, e151_157, e151_158, e151_158r, e151_159, e151_162, e151_163, e151_164, e151_167, e151_171, e151_174, e151_177, e151_178, e151_181, e151_182, e151_26r, q_gv0, q_gvs, q_isI1, q_isA1, q_hs0, q_hsn, q_hsi, q_hsr, q_hss, q_inc1, List.set_cons_zero, List.set_cons_succ, ↓reduceIte, q_ss0, q_ssi, q_ssr, q_nr0, q_nr10, q_nr11, q_tlS, q_tlN, q_cl, q_let, q_lef, q_ltt, q_ltf, q_eqt, q_eqf, q_add, q_mul, Nat.reduceAdd, Nat.reduceLeDiff, Nat.reduceEqDiff, eq_self, Nat.zero_le, Nat.le_refl, not_false_eq_true, not_true_eq_false, true_and, and_true, and_self, if_true, if_false, p1.o, p1.g12, p1.g13, p1.g17, p1.g23, p1.l7, p1.p17, cr145 h145 p1 t1 l1 q17 (show p < 1000 by omega), c1, q17, q13, q23, q7, q_upS, q_upN, q_upO, w3, q_sub, s1]
          exact k2 _ rs
        · simp (disch := first | assumption | omega) only [e151_0, e151_1, e151_2, e151_6, e151_9, e151_12, e151_13, e151_16, e151_17, e151_20, e151_21, e151_23, e151_24, e151_25, e151_26, e151_26r, e151_27, e151_30, e151_31, e151_32, e151_35, e151_36, e151_39, e151_40, e151_43, e151_46, e151_47, e151_50, e151_51, e151_54, e151_55, e151_57, e151_60, e151_61, e151_64, e151_65, e151_66, e151_67, e151_70, e151_71, e151_74, e151_77, e151_78, e151_81, e151_82, e151_85, e151_86, e151_88, e151_91, e151_92, e151_95, e151_96, e151_97, e151_98, e151_99, e151_102, e151_105, e151_106, e151_109, e151_110, e151_113, e151_114, e151_117, e151_119, e151_122, e151_123, e151_124, e151_125, e151_125r, e151_126, e151_129, e151_130, e151_131, e151_134, e151_135, e151_138, e151_139, e151_142, e151_144, e151_145, e151_146, e151_147, e151_150, e151_151, e151_154, e151_155, e151_156, e151_157, e151_158, e151_158r, e151_159, e151_162, e151_163, e151_164, e151_167, e151_171, e151_174, e151_177, e151_178, e151_181, e151_182, e151_26r, q_gv0, q_gvs, q_isI1, q_isA1, q_hs0, q_hsn, q_hsi, q_hsr, q_hss, q_inc1, List.set_cons_zero, List.set_cons_succ, ↓reduceIte, q_ss0, q_ssi, q_ssr, q_nr0, q_nr10, q_nr11, q_tlS, q_tlN, q_cl, q_let, q_lef, q_ltt, q_ltf, q_eqt, q_eqf, q_add, q_mul, Nat.reduceAdd, Nat.reduceLeDiff, Nat.reduceEqDiff, eq_self, Nat.zero_le, Nat.le_refl, not_false_eq_true, not_true_eq_false, true_and, and_true, and_self, if_true, if_false, p1.o, p1.g12, p1.g13, p1.g17, p1.g23, p1.l7, p1.p17, cr145 h145 p1 t1 l1 q17 (show p < 1000 by omega), c1, q17, q13, q23, q7, q_upS, q_upN, q_upO, w3, q_sub, s1]
          exact k2 _ rs
def sp151 : mv_Sp := fun As sh M Q => ∃ p nP, As = [.ref 0] ∧ oM sh ∧ tY M ∧ p < 202 ∧ M 0 17 = nI p ∧ nP ≤ 6 ∧ M 0 23 = nI nP ∧
  ((dmF (ly M) nP (300 - p) 0 p (M 14)).1 = 1 → ¬ (dmF (ly M) nP (300 - p) 0 p (M 14)).2.2.1 = 0 → ∀ N, rdE M N → (dmF (ly M) nP (300 - p) 0 p (M 14)).2.1 < 300 → (dmF (ly M) nP (300 - p) 0 p (M 14)).2.2.1 ≤ 8 → N 0 17 = nI (dmF (ly M) nP (300 - p) 0 p (M 14)).2.1 → dmE M N (dmF (ly M) nP (300 - p) 0 p (M 14)).2.2.1 (dmF (ly M) nP (300 - p) 0 p (M 14)).2.2.2 → Q (some (.int (nI 1))) sh N) ∧
  ((¬ (dmF (ly M) nP (300 - p) 0 p (M 14)).1 = 1 ∨ (dmF (ly M) nP (300 - p) 0 p (M 14)).2.2.1 = 0) → ∀ N, rdE M N → Q (some (.int (nI 0))) sh N)
theorem ct151 {S : Nat → mv_Sp} (h145 : S 145 = sp145) : ∀ As sh M P, sp151 As sh M P → (mv_al0 As).length ≤ 4 ∧ mr151 S P 0 (mv_ent As 4) [] sh M 0 0 := by
  rintro As sh M P ⟨p, nP, rfl, p1, p2, hp, hP, hnP, hNP, hS, hF⟩
  refine ⟨Nat.le_of_ble_eq_true rfl, ?_⟩
  show mr151 S P 0 [some (.ref 0), none, none, none] [] sh M 0 0
  have z0 : mv_up M 0 26 (nI 0) = dmM M 0 p (M 14) := by
    unfold dmM
    rw [wr_id]
    exact (up_id (by rw [q_upN (by decide)]; exact hP)).symm
  simp (disch := first | assumption | omega) only [e151_0, e151_1, e151_2, e151_6, e151_9, e151_12, e151_13, e151_16, e151_17, e151_20, e151_21, e151_23, e151_24, e151_25, e151_26, e151_26r, e151_27, e151_30, e151_31, e151_32, e151_35, e151_36, e151_39, e151_40, e151_43, e151_46, e151_47, e151_50, e151_51, e151_54, e151_55, e151_57, e151_60, e151_61, e151_64, e151_65, e151_66, e151_67, e151_70, e151_71, e151_74, e151_77, e151_78, e151_81, e151_82, e151_85, e151_86, e151_88, e151_91, e151_92, e151_95, e151_96, e151_97, e151_98, e151_99, e151_102, e151_105, e151_106, e151_109, e151_110, e151_113, e151_114, e151_117, e151_119, e151_122, e151_123, e151_124, e151_125, e151_125r, e151_126, e151_129, e151_130, e151_131, e151_134, e151_135, e151_138, e151_139, e151_142, e151_144, e151_145, e151_146, e151_147, e151_150, e151_151, e151_154, e151_155, e151_156, e151_157, e151_158, e151_158r, e151_159, e151_162, e151_163, e151_164, e151_167, e151_171, e151_174, e151_177, e151_178, e151_181, e151_182, q_gv0, q_gvs, q_isI1, q_isA1, q_hs0, q_hsn, q_hsi, q_hsr, q_hss, q_inc1, List.set_cons_zero, List.set_cons_succ, ↓reduceIte, q_ss0, q_ssi, q_ssr, q_nr0, q_nr10, q_nr11, q_tlS, q_tlN, q_cl, q_let, q_lef, q_ltt, q_ltf, q_eqt, q_eqf, q_add, q_mul, Nat.reduceAdd, Nat.reduceLeDiff, Nat.reduceEqDiff, eq_self, Nat.zero_le, Nat.le_refl, not_false_eq_true, not_true_eq_false, true_and, and_true, and_self, if_true, if_false, p1.p26, z0]
  refine lp151 h145 p1 p2 rfl hNP hnP (300 - p) 0 p (M 14) none none none (by omega) (by omega) (by omega) (fun e => hF (Or.inl (by rw [e]; decide))) (fun e y1 y2 y3 hq hk => ?_)
  generalize dmF (ly M) nP (300 - p) 0 p (M 14) = D at *
  obtain ⟨d1, d2, d3, d4⟩ := D
  dsimp only at *
  have q26 : dmM M d3 d2 d4 0 26 = nI d3 := dmM_E.1
  by_cases c : d3 = 0
  · subst c
    simp (disch := first | assumption | omega) only [e151_0, e151_1, e151_2, e151_6, e151_9, e151_12, e151_13, e151_16, e151_17, e151_20, e151_21, e151_23, e151_24, e151_25, e151_26, e151_26r, e151_27, e151_30, e151_31, e151_32, e151_35, e151_36, e151_39, e151_40, e151_43, e151_46, e151_47, e151_50, e151_51, e151_54, e151_55, e151_57, e151_60, e151_61, e151_64, e151_65, e151_66, e151_67, e151_70, e151_71, e151_74, e151_77, e151_78, e151_81, e151_82, e151_85, e151_86, e151_88, e151_91, e151_92, e151_95, e151_96, e151_97, e151_98, e151_99, e151_102, e151_105, e151_106, e151_109, e151_110, e151_113, e151_114, e151_117, e151_119, e151_122, e151_123, e151_124, e151_125, e151_125r, e151_126, e151_129, e151_130, e151_131, e151_134, e151_135, e151_138, e151_139, e151_142, e151_144, e151_145, e151_146, e151_147, e151_150, e151_151, e151_154, e151_155, e151_156, e151_157, e151_158, e151_158r, e151_159, e151_162, e151_163, e151_164, e151_167, e151_170, e151_171, e151_174, e151_177, e151_178, e151_181, e151_182, q_gv0, q_gvs, q_isI1, q_isA1, q_hs0, q_hsn, q_hsi, q_hsr, q_hss, q_inc1, List.set_cons_zero, List.set_cons_succ, ↓reduceIte, q_ss0, q_ssi, q_ssr, q_nr0, q_nr10, q_nr11, q_tlS, q_tlN, q_cl, q_let, q_lef, q_ltt, q_ltf, q_eqt, q_eqf, q_add, q_mul, Nat.reduceAdd, Nat.reduceLeDiff, Nat.reduceEqDiff, eq_self, Nat.zero_le, Nat.le_refl, not_false_eq_true, not_true_eq_false, true_and, and_true, and_self, if_true, if_false, p1.g26, q26]
    exact hF (Or.inr rfl) _ dmM_rd
  · simp (disch := first | assumption | omega) only [e151_0, e151_1, e151_2, e151_6, e151_9, e151_12, e151_13, e151_16, e151_17, e151_20, e151_21, e151_23, e151_24, e151_25, e151_26, e151_26r, e151_27, e151_30, e151_31, e151_32, e151_35, e151_36, e151_39, e151_40, e151_43, e151_46, e151_47, e151_50, e151_51, e151_54, e151_55, e151_57, e151_60, e151_61, e151_64, e151_65, e151_66, e151_67, e151_70, e151_71, e151_74, e151_77, e151_78, e151_81, e151_82, e151_85, e151_86, e151_88, e151_91, e151_92, e151_95, e151_96, e151_97, e151_98, e151_99, e151_102, e151_105, e151_106, e151_109, e151_110, e151_113, e151_114, e151_117, e151_119, e151_122, e151_123, e151_124, e151_125, e151_125r, e151_126, e151_129, e151_130, e151_131, e151_134, e151_135, e151_138, e151_139, e151_142, e151_144, e151_145, e151_146, e151_147, e151_150, e151_151, e151_154, e151_155, e151_156, e151_157, e151_158, e151_158r, e151_159, e151_162, e151_163, e151_164, e151_167, e151_170, e151_171, e151_174, e151_177, e151_178, e151_181, e151_182, q_gv0, q_gvs, q_isI1, q_isA1, q_hs0, q_hsn, q_hsi, q_hsr, q_hss, q_inc1, List.set_cons_zero, List.set_cons_succ, ↓reduceIte, q_ss0, q_ssi, q_ssr, q_nr0, q_nr10, q_nr11, q_tlS, q_tlN, q_cl, q_let, q_lef, q_ltt, q_ltf, q_eqt, q_eqf, q_add, q_mul, Nat.reduceAdd, Nat.reduceLeDiff, Nat.reduceEqDiff, eq_self, Nat.zero_le, Nat.le_refl, not_false_eq_true, not_true_eq_false, true_and, and_true, and_self, if_true, if_false, p1.g26, q26]
    exact hS e c _ dmM_rd hq hk q_upS dmM_E
