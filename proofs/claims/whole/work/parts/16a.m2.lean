/-! the model: picks, colours, slants, rows woven, looms copied -/
theorem cpy_0 {R S : Nat → Int32} {b d : Nat} : va_cpy R S b d 0 = S := by
  funext j
  unfold va_cpy
  exact if_neg (by omega)
theorem cpy_in {R S : Nat → Int32} {b d n k : Nat} (h : k < n) : va_cpy R S b d n (d + k) = R (b + k) := by
  unfold va_cpy
  rw [if_pos (by omega)]
  congr 1
  omega
theorem cpy_out {R S : Nat → Int32} {b d n j : Nat} (h : j < d ∨ d + n ≤ j) : va_cpy R S b d n j = S j := by
  unfold va_cpy
  exact if_neg (by omega)
theorem cpy_step {M : mv_Mem} {a : Nat} {R S : Nat → Int32} {b d k : Nat} {x : Int32} (h : x = R (b + k)) : mv_up (mv_wr M a (va_cpy R S b d k)) a (d + k) x = mv_wr M a (va_cpy R S b d (k + 1)) := by
  subst h
  funext c j
  by_cases hc : c = a
  · subst hc
    rw [q_wrS]
    by_cases hj : j = d + k
    · subst hj
      rw [q_upS, cpy_in (by omega)]
    · rw [q_upN (fun z => hj z.2), q_wrS]
      unfold va_cpy
      by_cases z : d ≤ j ∧ j < d + k
      · rw [if_pos z, if_pos (by omega)]
      · rw [if_neg z, if_neg (by omega)]
  · rw [q_upO hc, q_wrO hc, q_wrO hc]
theorem wr_id {M : mv_Mem} {a : Nat} : mv_wr M a (M a) = M := by
  funext c
  by_cases hc : c = a
  · subst hc; exact q_wrS
  · exact q_wrO hc
def toY (M : mv_Mem) (b p w t : Nat) : Nat := if M 5 p >>> (nI t &&& 31) &&& nI 1 = nI 1 then ocF (M 2 t).toNatClampNeg w (M 1 (b + 12 + t)) (M 0 9) else 1
/-- what a pick makes of tablet t's figures -/
def tsY (M : mv_Mem) (b p w t : Nat) : mv_Mem :=
  if toY M b p w t = 0 then mv_up (tyM M b t (qf (M 2 t).toNatClampNeg w)) 1 (b + 18 + t) (nI 0)
  else mv_up M 1 (b + 18 + t) (if M 1 (b + 18 + t) = nI 99 then nI 99 else M 1 (b + 18 + t) + nI 1)
def trY (M : mv_Mem) (b p w : Nat) : Nat → mv_Mem
  | 0 => M
  | t + 1 => tsY (trY M b p w t) b p w t
def tjY (M : mv_Mem) (b p w : Nat) : Nat → Nat
  | 0 => 0
  | t + 1 => tjY M b p w t + (if toY (trY M b p w t) b p w t = 2 then 1 else 0)
theorem tsY_out {M : mv_Mem} {b p w t c : Nat} (h : c ≠ 1) : tsY M b p w t c = M c := by
  unfold tsY tyM
  split <;> (funext j; simp (disch := first | assumption | omega) only [q_upO])
theorem trY_out {M : mv_Mem} {b p w c : Nat} (h : c ≠ 1) : ∀ t, trY M b p w t c = M c
  | 0 => rfl
  | t + 1 => (tsY_out h).trans (trY_out h t)
/-- what isn't a figure of tablet t stays -/
theorem tsY_at {M : mv_Mem} {b p w t j : Nat} (h1 : j ≠ b + 6 + t) (h2 : j ≠ b + 12 + t) (h3 : j ≠ b + 18 + t) (h4 : j ≠ b + 24 + t) : tsY M b p w t 1 j = M 1 j := by
  unfold tsY tyM
  split
  · rw [q_upN (fun z => h3 z.2), q_upN (fun z => h4 z.2), q_upN (fun z => h2 z.2), q_upN (fun z => h1 z.2)]
  · rw [q_upN (fun z => h3 z.2)]
theorem trY_at {M : mv_Mem} {b p w j : Nat} : ∀ n, n ≤ 6 → (j < b + 6 ∨ b + 30 ≤ j ∨ ∃ t, n ≤ t ∧ t < 6 ∧ (j = b + 6 + t ∨ j = b + 12 + t ∨ j = b + 18 + t ∨ j = b + 24 + t)) → trY M b p w n 1 j = M 1 j
  | 0, _, _ => rfl
  | n + 1, hn, h => by
    have e : trY M b p w (n + 1) = tsY (trY M b p w n) b p w n := rfl
    rw [e, tsY_at (by omega) (by omega) (by omega) (by omega)]
    refine trY_at n (by omega) ?_
    rcases h with h | h | ⟨t, h1, h2, h3⟩
    · exact Or.inl h
    · exact Or.inr (Or.inl h)
    · exact Or.inr (Or.inr ⟨t, by omega, h2, h3⟩)
theorem toY_lt (M : mv_Mem) (b p w t : Nat) : toY M b p w t = 0 ∨ toY M b p w t = 1 ∨ toY M b p w t = 2 := by
  unfold toY
  split
  · exact ocF_lt _ _ _ _
  · exact Or.inr (Or.inl rfl)
/-- the laid loom's numbers: tablets, packs, most twist, picks; kinds, threads, packs, draft -/
def gM (M : mv_Mem) : Prop := (∃ n, n ≤ 6 ∧ M 0 3 = nI n) ∧ (∃ n, n ≤ 6 ∧ M 0 7 = nI n) ∧ (∃ n, n ≤ 40 ∧ M 0 9 = nI n) ∧ (∃ n, n ≤ 8 ∧ M 0 10 = nI n) ∧
  (∀ t, t < (M 0 3).toNatClampNeg → ∃ k, k < 4 ∧ M 2 t = nI k) ∧ (∀ i, i < 4 * (M 0 3).toNatClampNeg → ∃ k, k < 10 ∧ M 3 i = nI k) ∧ (∀ p, p < (M 0 7).toNatClampNeg → ∃ k, k < 64 ∧ M 5 p = nI k) ∧
  (∀ k, k < (M 0 10).toNatClampNeg → ∃ q w, q < (M 0 7).toNatClampNeg ∧ w < 2 ∧ M 6 k = nI (10 * q + w))
theorem gM_of {M N : mv_Mem} (h : gM M) (e1 : N 0 3 = M 0 3) (e2 : N 0 7 = M 0 7) (e3 : N 0 9 = M 0 9) (e4 : N 0 10 = M 0 10) (f2 : N 2 = M 2) (f3 : N 3 = M 3) (f5 : N 5 = M 5) (f6 : N 6 = M 6) : gM N := by
  unfold gM
  rw [e1, e2, e3, e4, f2, f3, f5, f6]
  exact h
/-- the figures of the tablets that there are, at base b -/
def cY (M : mv_Mem) (b : Nat) : Prop := ∀ t, t < (M 0 3).toNatClampNeg → (∃ h, h < 4 ∧ M 1 (b + 6 + t) = nI h) ∧ tw40 (M 1 (b + 12 + t)) ∧ (∃ f, f ≤ 99 ∧ M 1 (b + 18 + t) = nI f)
theorem lp161 {S : Nat → mv_Sp} (h148 : S 148 = sp148) (h159 : S 159 = sp159) (h160 : S 160 = sp160) {sh : mv_Shp} {M : mv_Mem} {P : mv_Post} {b p w nT : Nat} (p1 : oM sh) (hb : b + 799 ≤ 9588) (hp : p < 6) (hw : w < 2) (hG : gM M) (hC : cY M b) (hT : M 0 3 = nI nT) (hT6 : nT ≤ 6)
    (hQ : P (some (.int (nI (tjY M b p w nT)))) sh (trY M b p w nT)) :
    ∀ n t, t + n = nT → ∀ x6 x7 x8, mr161 S P 6 [some (.ref 0), some (.int (nI b)), some (.int (nI p)), some (.int (nI w)), some (.int (nI (tjY M b p w t))), some (.int (nI t)), x6, x7, x8] [] sh (trY M b p w t) 0 0
  | 0, t, h, x6, x7, x8 => by
    obtain rfl : t = nT := by omega
    rw [e161_6]
    have hT' : trY M b p w t 0 3 = nI t := by rw [trY_out (by omega)]; exact hT
    simp (disch := first | assumption | omega) only [e161_0, e161_1, e161_3, e161_4, e161_8, e161_9, e161_12, e161_15, e161_16, e161_19, e161_20, e161_21, e161_23, e161_26, e161_28, e161_30, e161_32, e161_35, e161_36, e161_37, e161_39, e161_40, e161_43, e161_46, e161_47, e161_50, e161_51, e161_52, e161_54, e161_56, e161_59, e161_60, e161_61, e161_63, e161_64, e161_67, e161_70, e161_71, e161_74, e161_75, e161_77, e161_78, e161_81, e161_82, e161_84, e161_85, e161_87, e161_88, e161_89, e161_91, e161_92, e161_95, e161_96, e161_98, e161_99, e161_101, e161_102, e161_104, e161_107, e161_108, e161_111, e161_113, e161_115, e161_118, e161_120, e161_123, e161_125, e161_126, e161_127, e161_128, e161_131, e161_134, e161_136, q_gv0, q_gvs, q_isI1, q_isA1, q_hs0, q_hsn, q_hsi, q_hsr, q_hss, q_inc1, List.set_cons_zero, List.set_cons_succ, ↓reduceIte, q_ss0, q_ssi, q_ssr, q_nr0, q_nr10, q_nr11, q_tlS, q_tlN, q_cl, q_let, q_lef, q_ltt, q_ltf, q_eqt, q_eqf, q_add, q_mul, Nat.reduceAdd, Nat.reduceLeDiff, Nat.reduceEqDiff, eq_self, Nat.zero_le, Nat.le_refl, not_false_eq_true, not_true_eq_false, true_and, and_true, and_self, if_true, if_false, p1.g3, hT']
    exact hQ
  | n + 1, t, h, x6, x7, x8 => by
    rw [e161_6]
    have ih := lp161 h148 h159 h160 p1 hb hp hw hG hC hT hT6 hQ n (t + 1) (by omega)
    have hT' : trY M b p w t 0 3 = nI nT := by rw [trY_out (by omega)]; exact hT
    have t6 : t < 6 := by omega
    have tT : t < (M 0 3).toNatClampNeg := by rw [hT, q_cl (by omega)]; omega
    have hk : ∃ k, k < 4 ∧ trY M b p w t 2 t = nI k := by rw [trY_out (by omega)]; exact hG.2.2.2.2.1 t tT
    have h9 : ∃ n, n ≤ 40 ∧ trY M b p w t 0 9 = nI n := by rw [trY_out (by omega)]; exact hG.2.2.1
    have h12 : tw40 (trY M b p w t 1 (b + 12 + t)) := by rw [trY_at t (by omega) (Or.inr (Or.inr ⟨t, Nat.le_refl _, t6, by omega⟩))]; exact (hC t tT).2.1
    have e1 : trY M b p w (t + 1) = tsY (trY M b p w t) b p w t := rfl
    have e2 : tjY M b p w (t + 1) = tjY M b p w t + (if toY (trY M b p w t) b p w t = 2 then 1 else 0) := rfl
    rw [e1, e2] at ih
    generalize trY M b p w t = N at ih hT' hk h9 h12 ⊢
    have t18 : b + 18 + t < 9588 := by omega
    by_cases hm : N 5 p >>> (nI t &&& 31) &&& nI 1 = nI 1
    · have ho : toY N b p w t = ocF (N 2 t).toNatClampNeg w (N 1 (b + 12 + t)) (N 0 9) := if_pos hm
      unfold tsY at ih
      rw [ho] at ih
      have z20 : ¬ (0 : Nat) = 2 := by decide
      have z10 : ¬ (1 : Nat) = 0 := by decide
      have z12 : ¬ (1 : Nat) = 2 := by decide
      rcases ocF_lt (N 2 t).toNatClampNeg w (N 1 (b + 12 + t)) (N 0 9) with h0 | h0 | h0
      · rw [h0, if_pos rfl, if_neg (by decide)] at ih
        have f : tyM N b t (qf (N 2 t).toNatClampNeg w) 1 (b + 18 + t) = N 1 (b + 18 + t) := by
          unfold tyM
          rw [q_upN (by omega), q_upN (by omega), q_upN (by omega)]
        simp (disch := first | assumption | omega) only [e161_0, e161_1, e161_3, e161_4, e161_8, e161_9, e161_12, e161_15, e161_16, e161_19, e161_20, e161_21, e161_23, e161_26, e161_28, e161_30, e161_32, e161_35, e161_36, e161_37, e161_39, e161_40, e161_43, e161_46, e161_47, e161_50, e161_51, e161_52, e161_54, e161_56, e161_59, e161_60, e161_61, e161_63, e161_64, e161_67, e161_70, e161_71, e161_74, e161_75, e161_77, e161_78, e161_81, e161_82, e161_84, e161_85, e161_87, e161_88, e161_89, e161_91, e161_92, e161_95, e161_96, e161_98, e161_99, e161_101, e161_102, e161_104, e161_107, e161_108, e161_111, e161_113, e161_115, e161_118, e161_120, e161_123, e161_125, e161_126, e161_127, e161_128, e161_131, e161_134, e161_136, q_gv0, q_gvs, q_isI1, q_isA1, q_hs0, q_hsn, q_hsi, q_hsr, q_hss, q_inc1, List.set_cons_zero, List.set_cons_succ, ↓reduceIte, q_ss0, q_ssi, q_ssr, q_nr0, q_nr10, q_nr11, q_tlS, q_tlN, q_cl, q_let, q_lef, q_ltt, q_ltf, q_eqt, q_eqf, q_add, q_mul, Nat.reduceAdd, Nat.reduceLeDiff, Nat.reduceEqDiff, eq_self, Nat.zero_le, Nat.le_refl, not_false_eq_true, not_true_eq_false, true_and, and_true, and_self, if_true, if_false, p1.o, p1.g0, p1.g3, p1.g8, p1.l1, p1.l5, p1.s1, hT', cl148 h148, cl159 h159, cl160 h160, hm, h0, z20]
        exact ih _ _ _
      · rw [h0, if_neg (by decide), if_neg (by decide)] at ih
        by_cases f : N 1 (b + 18 + t) = nI 99
        · rw [if_pos f] at ih
          simp (disch := first | assumption | omega) only [e161_0, e161_1, e161_3, e161_4, e161_8, e161_9, e161_12, e161_15, e161_16, e161_19, e161_20, e161_21, e161_23, e161_26, e161_28, e161_30, e161_32, e161_35, e161_36, e161_37, e161_39, e161_40, e161_43, e161_46, e161_47, e161_50, e161_51, e161_52, e161_54, e161_56, e161_59, e161_60, e161_61, e161_63, e161_64, e161_67, e161_70, e161_71, e161_74, e161_75, e161_77, e161_78, e161_81, e161_82, e161_84, e161_85, e161_87, e161_88, e161_89, e161_91, e161_92, e161_95, e161_96, e161_98, e161_99, e161_101, e161_102, e161_104, e161_107, e161_108, e161_111, e161_113, e161_115, e161_118, e161_120, e161_123, e161_125, e161_126, e161_127, e161_128, e161_131, e161_134, e161_136, q_gv0, q_gvs, q_isI1, q_isA1, q_hs0, q_hsn, q_hsi, q_hsr, q_hss, q_inc1, List.set_cons_zero, List.set_cons_succ, ↓reduceIte, q_ss0, q_ssi, q_ssr, q_nr0, q_nr10, q_nr11, q_tlS, q_tlN, q_cl, q_let, q_lef, q_ltt, q_ltf, q_eqt, q_eqf, q_add, q_mul, Nat.reduceAdd, Nat.reduceLeDiff, Nat.reduceEqDiff, eq_self, Nat.zero_le, Nat.le_refl, not_false_eq_true, not_true_eq_false, true_and, and_true, and_self, if_true, if_false, p1.o, p1.g0, p1.g3, p1.g8, p1.l1, p1.l5, p1.s1, hT', cl148 h148, cl159 h159, cl160 h160, hm, h0, f, z10, z12]
          exact ih _ _ _
        · rw [if_neg f] at ih
          simp (disch := first | assumption | omega) only [e161_0, e161_1, e161_3, e161_4, e161_8, e161_9, e161_12, e161_15, e161_16, e161_19, e161_20, e161_21, e161_23, e161_26, e161_28, e161_30, e161_32, e161_35, e161_36, e161_37, e161_39, e161_40, e161_43, e161_46, e161_47, e161_50, e161_51, e161_52, e161_54, e161_56, e161_59, e161_60, e161_61, e161_63, e161_64, e161_67, e161_70, e161_71, e161_74, e161_75, e161_77, e161_78, e161_81, e161_82, e161_84, e161_85, e161_87, e161_88, e161_89, e161_91, e161_92, e161_95, e161_96, e161_98, e161_99, e161_101, e161_102, e161_104, e161_107, e161_108, e161_111, e161_113, e161_115, e161_118, e161_120, e161_123, e161_125, e161_126, e161_127, e161_128, e161_131, e161_134, e161_136, q_gv0, q_gvs, q_isI1, q_isA1, q_hs0, q_hsn, q_hsi, q_hsr, q_hss, q_inc1, List.set_cons_zero, List.set_cons_succ, ↓reduceIte, q_ss0, q_ssi, q_ssr, q_nr0, q_nr10, q_nr11, q_tlS, q_tlN, q_cl, q_let, q_lef, q_ltt, q_ltf, q_eqt, q_eqf, q_add, q_mul, Nat.reduceAdd, Nat.reduceLeDiff, Nat.reduceEqDiff, eq_self, Nat.zero_le, Nat.le_refl, not_false_eq_true, not_true_eq_false, true_and, and_true, and_self, if_true, if_false, p1.o, p1.g0, p1.g3, p1.g8, p1.l1, p1.l5, p1.s1, hT', cl148 h148, cl159 h159, cl160 h160, hm, h0, f, z10, z12]
          exact ih _ _ _
      · rw [h0, if_pos rfl, if_neg (by decide)] at ih
        have z02 : ¬ (2 : Nat) = 0 := by decide
        by_cases f : N 1 (b + 18 + t) = nI 99
        · rw [if_pos f] at ih
          simp (disch := first | assumption | omega) only [e161_0, e161_1, e161_3, e161_4, e161_8, e161_9, e161_12, e161_15, e161_16, e161_19, e161_20, e161_21, e161_23, e161_26, e161_28, e161_30, e161_32, e161_35, e161_36, e161_37, e161_39, e161_40, e161_43, e161_46, e161_47, e161_50, e161_51, e161_52, e161_54, e161_56, e161_59, e161_60, e161_61, e161_63, e161_64, e161_67, e161_70, e161_71, e161_74, e161_75, e161_77, e161_78, e161_81, e161_82, e161_84, e161_85, e161_87, e161_88, e161_89, e161_91, e161_92, e161_95, e161_96, e161_98, e161_99, e161_101, e161_102, e161_104, e161_107, e161_108, e161_111, e161_113, e161_115, e161_118, e161_120, e161_123, e161_125, e161_126, e161_127, e161_128, e161_131, e161_134, e161_136, q_gv0, q_gvs, q_isI1, q_isA1, q_hs0, q_hsn, q_hsi, q_hsr, q_hss, q_inc1, List.set_cons_zero, List.set_cons_succ, ↓reduceIte, q_ss0, q_ssi, q_ssr, q_nr0, q_nr10, q_nr11, q_tlS, q_tlN, q_cl, q_let, q_lef, q_ltt, q_ltf, q_eqt, q_eqf, q_add, q_mul, Nat.reduceAdd, Nat.reduceLeDiff, Nat.reduceEqDiff, eq_self, Nat.zero_le, Nat.le_refl, not_false_eq_true, not_true_eq_false, true_and, and_true, and_self, if_true, if_false, p1.o, p1.g0, p1.g3, p1.g8, p1.l1, p1.l5, p1.s1, hT', cl148 h148, cl159 h159, cl160 h160, hm, h0, f, z02]
          exact ih _ _ _
        · rw [if_neg f] at ih
          simp (disch := first | assumption | omega) only [e161_0, e161_1, e161_3, e161_4, e161_8, e161_9, e161_12, e161_15, e161_16, e161_19, e161_20, e161_21, e161_23, e161_26, e161_28, e161_30, e161_32, e161_35, e161_36, e161_37, e161_39, e161_40, e161_43, e161_46, e161_47, e161_50, e161_51, e161_52, e161_54, e161_56, e161_59, e161_60, e161_61, e161_63, e161_64, e161_67, e161_70, e161_71, e161_74, e161_75, e161_77, e161_78, e161_81, e161_82, e161_84, e161_85, e161_87, e161_88, e161_89, e161_91, e161_92, e161_95, e161_96, e161_98, e161_99, e161_101, e161_102, e161_104, e161_107, e161_108, e161_111, e161_113, e161_115, e161_118, e161_120, e161_123, e161_125, e161_126, e161_127, e161_128, e161_131, e161_134, e161_136, q_gv0, q_gvs, q_isI1, q_isA1, q_hs0, q_hsn, q_hsi, q_hsr, q_hss, q_inc1, List.set_cons_zero, List.set_cons_succ, ↓reduceIte, q_ss0, q_ssi, q_ssr, q_nr0, q_nr10, q_nr11, q_tlS, q_tlN, q_cl, q_let, q_lef, q_ltt, q_ltf, q_eqt, q_eqf, q_add, q_mul, Nat.reduceAdd, Nat.reduceLeDiff, Nat.reduceEqDiff, eq_self, Nat.zero_le, Nat.le_refl, not_false_eq_true, not_true_eq_false, true_and, and_true, and_self, if_true, if_false, p1.o, p1.g0, p1.g3, p1.g8, p1.l1, p1.l5, p1.s1, hT', cl148 h148, cl159 h159, cl160 h160, hm, h0, f, z02]
          exact ih _ _ _
    · have ho : toY N b p w t = 1 := if_neg hm
      unfold tsY at ih
      rw [ho, if_neg (by decide), if_neg (by decide)] at ih
      by_cases f : N 1 (b + 18 + t) = nI 99
      · rw [if_pos f] at ih
        simp (disch := first | assumption | omega) only [e161_0, e161_1, e161_3, e161_4, e161_8, e161_9, e161_12, e161_15, e161_16, e161_19, e161_20, e161_21, e161_23, e161_26, e161_28, e161_30, e161_32, e161_35, e161_36, e161_37, e161_39, e161_40, e161_43, e161_46, e161_47, e161_50, e161_51, e161_52, e161_54, e161_56, e161_59, e161_60, e161_61, e161_63, e161_64, e161_67, e161_70, e161_71, e161_74, e161_75, e161_77, e161_78, e161_81, e161_82, e161_84, e161_85, e161_87, e161_88, e161_89, e161_91, e161_92, e161_95, e161_96, e161_98, e161_99, e161_101, e161_102, e161_104, e161_107, e161_108, e161_111, e161_113, e161_115, e161_118, e161_120, e161_123, e161_125, e161_126, e161_127, e161_128, e161_131, e161_134, e161_136, q_gv0, q_gvs, q_isI1, q_isA1, q_hs0, q_hsn, q_hsi, q_hsr, q_hss, q_inc1, List.set_cons_zero, List.set_cons_succ, ↓reduceIte, q_ss0, q_ssi, q_ssr, q_nr0, q_nr10, q_nr11, q_tlS, q_tlN, q_cl, q_let, q_lef, q_ltt, q_ltf, q_eqt, q_eqf, q_add, q_mul, Nat.reduceAdd, Nat.reduceLeDiff, Nat.reduceEqDiff, eq_self, Nat.zero_le, Nat.le_refl, not_false_eq_true, not_true_eq_false, true_and, and_true, and_self, if_true, if_false, p1.o, p1.g0, p1.g3, p1.g8, p1.l1, p1.l5, p1.s1, hT', cl148 h148, hm, f]
        exact ih _ _ _
      · rw [if_neg f] at ih
        simp (disch := first | assumption | omega) only [e161_0, e161_1, e161_3, e161_4, e161_8, e161_9, e161_12, e161_15, e161_16, e161_19, e161_20, e161_21, e161_23, e161_26, e161_28, e161_30, e161_32, e161_35, e161_36, e161_37, e161_39, e161_40, e161_43, e161_46, e161_47, e161_50, e161_51, e161_52, e161_54, e161_56, e161_59, e161_60, e161_61, e161_63, e161_64, e161_67, e161_70, e161_71, e161_74, e161_75, e161_77, e161_78, e161_81, e161_82, e161_84, e161_85, e161_87, e161_88, e161_89, e161_91, e161_92, e161_95, e161_96, e161_98, e161_99, e161_101, e161_102, e161_104, e161_107, e161_108, e161_111, e161_113, e161_115, e161_118, e161_120, e161_123, e161_125, e161_126, e161_127, e161_128, e161_131, e161_134, e161_136, q_gv0, q_gvs, q_isI1, q_isA1, q_hs0, q_hsn, q_hsi, q_hsr, q_hss, q_inc1, List.set_cons_zero, List.set_cons_succ, ↓reduceIte, q_ss0, q_ssi, q_ssr, q_nr0, q_nr10, q_nr11, q_tlS, q_tlN, q_cl, q_let, q_lef, q_ltt, q_ltf, q_eqt, q_eqf, q_add, q_mul, Nat.reduceAdd, Nat.reduceLeDiff, Nat.reduceEqDiff, eq_self, Nat.zero_le, Nat.le_refl, not_false_eq_true, not_true_eq_false, true_and, and_true, and_self, if_true, if_false, p1.o, p1.g0, p1.g3, p1.g8, p1.l1, p1.l5, p1.s1, hT', cl148 h148, hm, f]
        exact ih _ _ _
def sp161 : mv_Sp := fun As sh M Q => ∃ (b : Nat) (p : Nat) (w : Nat), As = [.ref 0, .int (nI b), .int (nI p), .int (nI w)] ∧ ((oM sh) ∧ (b + 799 ≤ 9588) ∧ (p < 6) ∧ (w < 2) ∧ (gM M) ∧ (cY M b)) ∧ Q (some (.int (nI (tjY M b p w (M 0 3).toNatClampNeg)))) (sh) (trY M b p w (M 0 3).toNatClampNeg)
theorem cl161 {S : Nat → mv_Sp} (hS : S 161 = sp161) {sh : mv_Shp} {M : mv_Mem} {b : Nat} {p : Nat} {w : Nat} (p1 : oM sh) (p2 : b + 799 ≤ 9588) (p3 : p < 6) (p4 : w < 2) (p5 : gM M) (p6 : cY M b) {K : mv_Kt} {pc : Nat} {L : mv_Loc} {st : List Value} {cc_ ss_ : Nat} : mv_kal S 161 [.ref 0, .int (nI b), .int (nI p), .int (nI w)] sh M K pc L st cc_ ss_ = K pc L ((some (.int (nI (tjY M b p w (M 0 3).toNatClampNeg))) : Option Value).toList ++ st) (sh) (trY M b p w (M 0 3).toNatClampNeg) cc_ ss_ := by
  refine q_kal (fun F => q_cali (fun Q => ?_))
  rw [hS]
  constructor
  · rintro ⟨b', p', w', hE, ⟨zp1, zp2, zp3, zp4, zp5, zp6⟩, hQ⟩
    simp only [List.cons.injEq, Value.ref.injEq, Value.int.injEq, Value.long.injEq, and_true, true_and] at hE
    obtain ⟨e_b, e_p, e_w⟩ := hE
    have z_b := nI_inj e_b (by omega) (by omega)
    subst z_b
    have z_p := nI_inj e_p (by omega) (by omega)
    subst z_p
    have z_w := nI_inj e_w (by omega) (by omega)
    subst z_w
    exact hQ
  · intro hQ
    exact ⟨b, p, w, rfl, ⟨p1, p2, p3, p4, p5, p6⟩, hQ⟩
theorem ct161 {S : Nat → mv_Sp} (h148 : S 148 = sp148) (h159 : S 159 = sp159) (h160 : S 160 = sp160) : ∀ As sh M P, sp161 As sh M P → (mv_al0 As).length ≤ 9 ∧ mr161 S P 0 (mv_ent As 9) [] sh M 0 0 := by
  rintro As sh M P ⟨b, p, w, rfl, ⟨p1, p2, p3, p4, p5, p6⟩, hQ⟩
  refine ⟨Nat.le_of_ble_eq_true rfl, ?_⟩
  show mr161 S P 0 [some (.ref 0), some (.int (nI b)), some (.int (nI p)), some (.int (nI w)), none, none, none, none, none] [] sh M 0 0
  obtain ⟨nT, h6, hT⟩ := p5.1
  rw [hT, q_cl (by omega)] at hQ
  simp (disch := first | assumption | omega) only [e161_0, e161_1, e161_3, e161_4, q_gv0, q_gvs, q_isI1, q_isA1, q_hs0, q_hsn, q_hsi, q_hsr, q_hss, q_inc1, List.set_cons_zero, List.set_cons_succ, ↓reduceIte, q_ss0, q_ssi, q_ssr, q_nr0, q_nr10, q_nr11, q_tlS, q_tlN, q_cl, q_let, q_lef, q_ltt, q_ltf, q_eqt, q_eqf, q_add, q_mul, Nat.reduceAdd, Nat.reduceLeDiff, Nat.reduceEqDiff, eq_self, Nat.zero_le, Nat.le_refl, not_false_eq_true, not_true_eq_false, true_and, and_true, and_self, if_true, if_false]
  exact lp161 h148 h159 h160 p1 p2 p3 p4 p5 p6 hT h6 hQ nT 0 (by omega) none none none
def coG (M : mv_Mem) (b : Nat) : Nat → Int32 := fun t => M 3 (4 * t + (M 1 (b + 6 + t)).toNatClampNeg)
def coY (M : mv_Mem) (b : Nat) : Int32 := clF (coG M b) (M 0 3).toNatClampNeg
theorem lp162 {S : Nat → mv_Sp} {sh : mv_Shp} {M : mv_Mem} {P : mv_Post} {b nT : Nat} (p1 : oM sh) (hb : b + 799 ≤ 9588) (hC : cY M b) (hT : M 0 3 = nI nT) (hT6 : nT ≤ 6) (hQ : P (some (.int (clF (coG M b) nT))) sh M) :
    ∀ n t, t + n = nT → mr162 S P 4 [some (.ref 0), some (.int (nI b)), some (.int (clF (coG M b) t)), some (.int (nI t))] [] sh M 0 0
  | 0, t, h => by
    obtain rfl : t = nT := by omega
    rw [e162_4]
    simp (disch := first | assumption | omega) only [e162_0, e162_1, e162_2, e162_3, e162_5, e162_6, e162_9, e162_12, e162_14, e162_15, e162_16, e162_17, e162_20, e162_21, e162_22, e162_23, e162_24, e162_27, e162_28, e162_30, e162_31, e162_32, e162_33, e162_34, e162_35, e162_36, e162_37, e162_38, e162_41, e162_44, e162_45, q_gv0, q_gvs, q_isI1, q_isA1, q_hs0, q_hsn, q_hsi, q_hsr, q_hss, q_inc1, List.set_cons_zero, List.set_cons_succ, ↓reduceIte, q_ss0, q_ssi, q_ssr, q_nr0, q_nr10, q_nr11, q_tlS, q_tlN, q_cl, q_let, q_lef, q_ltt, q_ltf, q_eqt, q_eqf, q_add, q_mul, Nat.reduceAdd, Nat.reduceLeDiff, Nat.reduceEqDiff, eq_self, Nat.zero_le, Nat.le_refl, not_false_eq_true, not_true_eq_false, true_and, and_true, and_self, if_true, if_false, p1.g3, hT]
    exact hQ
  | n + 1, t, h => by
    have tT : t < (M 0 3).toNatClampNeg := by rw [hT, q_cl (by omega)]; omega
    obtain ⟨q, hq, hQq⟩ := (hC t tT).1
    have ih := lp162 (S := S) p1 hb hC hT hT6 hQ n (t + 1) (by omega)
    have e : clF (coG M b) (t + 1) = nI 10 * clF (coG M b) t + M 3 (4 * t + q) := by
      show clF (coG M b) t * nI 10 + M 3 (4 * t + (M 1 (b + 6 + t)).toNatClampNeg) = _
      rw [hQq, q_cl (by omega), Int32.mul_comm]
    rw [e] at ih
    rw [e162_4]
    simp (disch := first | assumption | omega) only [e162_0, e162_1, e162_2, e162_3, e162_5, e162_6, e162_9, e162_12, e162_14, e162_15, e162_16, e162_17, e162_20, e162_21, e162_22, e162_23, e162_24, e162_27, e162_28, e162_30, e162_31, e162_32, e162_33, e162_34, e162_35, e162_36, e162_37, e162_38, e162_41, e162_44, e162_45, q_gv0, q_gvs, q_isI1, q_isA1, q_hs0, q_hsn, q_hsi, q_hsr, q_hss, q_inc1, List.set_cons_zero, List.set_cons_succ, ↓reduceIte, q_ss0, q_ssi, q_ssr, q_nr0, q_nr10, q_nr11, q_tlS, q_tlN, q_cl, q_let, q_lef, q_ltt, q_ltf, q_eqt, q_eqf, q_add, q_mul, Nat.reduceAdd, Nat.reduceLeDiff, Nat.reduceEqDiff, eq_self, Nat.zero_le, Nat.le_refl, not_false_eq_true, not_true_eq_false, true_and, and_true, and_self, if_true, if_false, p1.g0, p1.g3, p1.g5, p1.l1, p1.l3, hT, hQq]
    exact ih
def sp162 : mv_Sp := fun As sh M Q => ∃ (b : Nat), As = [.ref 0, .int (nI b)] ∧ ((oM sh) ∧ (b + 799 ≤ 9588) ∧ (∃ n, n ≤ 6 ∧ M 0 3 = nI n) ∧ (cY M b)) ∧ Q (some (.int (coY M b))) (sh) (M)
theorem cl162 {S : Nat → mv_Sp} (hS : S 162 = sp162) {sh : mv_Shp} {M : mv_Mem} {b : Nat} (p1 : oM sh) (p2 : b + 799 ≤ 9588) (p3 : ∃ n, n ≤ 6 ∧ M 0 3 = nI n) (p4 : cY M b) {K : mv_Kt} {pc : Nat} {L : mv_Loc} {st : List Value} {cc_ ss_ : Nat} : mv_kal S 162 [.ref 0, .int (nI b)] sh M K pc L st cc_ ss_ = K pc L ((some (.int (coY M b)) : Option Value).toList ++ st) (sh) (M) cc_ ss_ := by
  refine q_kal (fun F => q_cali (fun Q => ?_))
  rw [hS]
  constructor
  · rintro ⟨b', hE, ⟨zp1, zp2, zp3, zp4⟩, hQ⟩
    simp only [List.cons.injEq, Value.ref.injEq, Value.int.injEq, Value.long.injEq, and_true, true_and] at hE
    have e_b := hE
    have z_b := nI_inj e_b (by omega) (by omega)
    subst z_b
    exact hQ
  · intro hQ
    exact ⟨b, rfl, ⟨p1, p2, p3, p4⟩, hQ⟩
theorem ct162 {S : Nat → mv_Sp}  : ∀ As sh M P, sp162 As sh M P → (mv_al0 As).length ≤ 4 ∧ mr162 S P 0 (mv_ent As 4) [] sh M 0 0 := by
  rintro As sh M P ⟨b, rfl, ⟨p1, p2, p3, p4⟩, hQ⟩
  refine ⟨Nat.le_of_ble_eq_true rfl, ?_⟩
  show mr162 S P 0 [some (.ref 0), some (.int (nI b)), none, none] [] sh M 0 0
  obtain ⟨nT, h6, hT⟩ := p3
  unfold coY at hQ
  rw [hT, q_cl (by omega)] at hQ
  simp (disch := first | assumption | omega) only [e162_0, e162_1, e162_2, e162_3, q_gv0, q_gvs, q_isI1, q_isA1, q_hs0, q_hsn, q_hsi, q_hsr, q_hss, q_inc1, List.set_cons_zero, List.set_cons_succ, ↓reduceIte, q_ss0, q_ssi, q_ssr, q_nr0, q_nr10, q_nr11, q_tlS, q_tlN, q_cl, q_let, q_lef, q_ltt, q_ltf, q_eqt, q_eqf, q_add, q_mul, Nat.reduceAdd, Nat.reduceLeDiff, Nat.reduceEqDiff, eq_self, Nat.zero_le, Nat.le_refl, not_false_eq_true, not_true_eq_false, true_and, and_true, and_self, if_true, if_false]
  exact lp162 p1 p2 p4 hT h6 hQ nT 0 (by omega)
def snY (M : mv_Mem) (b t : Nat) : Int32 := if M 1 (b + 24 + t) = nI 1 then nI 1 - M 1 (b + 0 + t) else M 1 (b + 0 + t)
def sp163 : mv_Sp := fun As sh M Q => ∃ (b : Nat) (t : Nat), As = [.ref 0, .int (nI b), .int (nI t)] ∧ ((oM sh) ∧ (b + 799 ≤ 9588) ∧ (t < 6)) ∧ Q (some (.int (snY M b t))) (sh) (M)
theorem cl163 {S : Nat → mv_Sp} (hS : S 163 = sp163) {sh : mv_Shp} {M : mv_Mem} {b : Nat} {t : Nat} (p1 : oM sh) (p2 : b + 799 ≤ 9588) (p3 : t < 6) {K : mv_Kt} {pc : Nat} {L : mv_Loc} {st : List Value} {cc_ ss_ : Nat} : mv_kal S 163 [.ref 0, .int (nI b), .int (nI t)] sh M K pc L st cc_ ss_ = K pc L ((some (.int (snY M b t)) : Option Value).toList ++ st) (sh) (M) cc_ ss_ := by
  refine q_kal (fun F => q_cali (fun Q => ?_))
  rw [hS]
  constructor
  · rintro ⟨b', t', hE, ⟨zp1, zp2, zp3⟩, hQ⟩
    simp only [List.cons.injEq, Value.ref.injEq, Value.int.injEq, Value.long.injEq, and_true, true_and] at hE
    obtain ⟨e_b, e_t⟩ := hE
    have z_b := nI_inj e_b (by omega) (by omega)
    subst z_b
    have z_t := nI_inj e_t (by omega) (by omega)
    subst z_t
    exact hQ
  · intro hQ
    exact ⟨b, t, rfl, ⟨p1, p2, p3⟩, hQ⟩
theorem ct163 {S : Nat → mv_Sp}  : ∀ As sh M P, sp163 As sh M P → (mv_al0 As).length ≤ 3 ∧ mr163 S P 0 (mv_ent As 3) [] sh M 0 0 := by
  rintro As sh M P ⟨b, t, rfl, ⟨p1, p2, p3⟩, hQ⟩
  refine ⟨Nat.le_of_ble_eq_true rfl, ?_⟩
  show mr163 S P 0 [some (.ref 0), some (.int (nI b)), some (.int (nI t))] [] sh M 0 0
  unfold snY at hQ
  by_cases c : M 1 (b + 24 + t) = nI 1
  · rw [if_pos c] at hQ
    simp (disch := first | assumption | omega) only [e163_0, e163_1, e163_4, e163_5, e163_7, e163_8, e163_9, e163_10, e163_11, e163_12, e163_15, e163_16, e163_17, e163_20, e163_21, e163_22, e163_23, e163_24, e163_25, e163_26, e163_27, e163_30, e163_31, e163_34, e163_35, e163_36, e163_37, e163_38, e163_39, e163_40, q_gv0, q_gvs, q_isI1, q_isA1, q_hs0, q_hsn, q_hsi, q_hsr, q_hss, q_inc1, List.set_cons_zero, List.set_cons_succ, ↓reduceIte, q_ss0, q_ssi, q_ssr, q_nr0, q_nr10, q_nr11, q_tlS, q_tlN, q_cl, q_let, q_lef, q_ltt, q_ltf, q_eqt, q_eqf, q_add, q_mul, Nat.reduceAdd, Nat.reduceLeDiff, Nat.reduceEqDiff, eq_self, Nat.zero_le, Nat.le_refl, not_false_eq_true, not_true_eq_false, true_and, and_true, and_self, if_true, if_false, p1.g0, p1.l1, c]
    exact hQ
  · rw [if_neg c] at hQ
    simp (disch := first | assumption | omega) only [e163_0, e163_1, e163_4, e163_5, e163_7, e163_8, e163_9, e163_10, e163_11, e163_12, e163_15, e163_16, e163_17, e163_20, e163_21, e163_22, e163_23, e163_24, e163_25, e163_26, e163_27, e163_30, e163_31, e163_34, e163_35, e163_36, e163_37, e163_38, e163_39, e163_40, q_gv0, q_gvs, q_isI1, q_isA1, q_hs0, q_hsn, q_hsi, q_hsr, q_hss, q_inc1, List.set_cons_zero, List.set_cons_succ, ↓reduceIte, q_ss0, q_ssi, q_ssr, q_nr0, q_nr10, q_nr11, q_tlS, q_tlN, q_cl, q_let, q_lef, q_ltt, q_ltf, q_eqt, q_eqf, q_add, q_mul, Nat.reduceAdd, Nat.reduceLeDiff, Nat.reduceEqDiff, eq_self, Nat.zero_le, Nat.le_refl, not_false_eq_true, not_true_eq_false, true_and, and_true, and_self, if_true, if_false, p1.g0, p1.l1, c]
    exact hQ
theorem lp164 {S : Nat → mv_Sp} (h163 : S 163 = sp163) {sh : mv_Shp} {M : mv_Mem} {P : mv_Post} {b nT : Nat} (p1 : oM sh) (hb : b + 799 ≤ 9588) (hT : M 0 3 = nI nT) (hT6 : nT ≤ 6) (hQ : P (some (.int (slF (snY M b) nT))) sh M) :
    ∀ n t, t + n = nT → mr164 S P 4 [some (.ref 0), some (.int (nI b)), some (.int (slF (snY M b) t)), some (.int (nI t))] [] sh M 0 0
  | 0, t, h => by
    obtain rfl : t = nT := by omega
    rw [e164_4]
    simp (disch := first | assumption | omega) only [e164_0, e164_1, e164_2, e164_3, e164_5, e164_6, e164_9, e164_12, e164_13, e164_14, e164_15, e164_16, e164_19, e164_20, e164_21, e164_22, e164_23, e164_26, e164_29, e164_30, q_gv0, q_gvs, q_isI1, q_isA1, q_hs0, q_hsn, q_hsi, q_hsr, q_hss, q_inc1, List.set_cons_zero, List.set_cons_succ, ↓reduceIte, q_ss0, q_ssi, q_ssr, q_nr0, q_nr10, q_nr11, q_tlS, q_tlN, q_cl, q_let, q_lef, q_ltt, q_ltf, q_eqt, q_eqf, q_add, q_mul, Nat.reduceAdd, Nat.reduceLeDiff, Nat.reduceEqDiff, eq_self, Nat.zero_le, Nat.le_refl, not_false_eq_true, not_true_eq_false, true_and, and_true, and_self, if_true, if_false, p1.g3, hT]
    exact hQ
  | n + 1, t, h => by
    have ih := lp164 h163 p1 hb hT hT6 hQ n (t + 1) (by omega)
    rw [e164_4]
    simp (disch := first | assumption | omega) only [e164_0, e164_1, e164_2, e164_3, e164_5, e164_6, e164_9, e164_12, e164_13, e164_14, e164_15, e164_16, e164_19, e164_20, e164_21, e164_22, e164_23, e164_26, e164_29, e164_30, q_gv0, q_gvs, q_isI1, q_isA1, q_hs0, q_hsn, q_hsi, q_hsr, q_hss, q_inc1, List.set_cons_zero, List.set_cons_succ, ↓reduceIte, q_ss0, q_ssi, q_ssr, q_nr0, q_nr10, q_nr11, q_tlS, q_tlN, q_cl, q_let, q_lef, q_ltt, q_ltf, q_eqt, q_eqf, q_add, q_mul, Nat.reduceAdd, Nat.reduceLeDiff, Nat.reduceEqDiff, eq_self, Nat.zero_le, Nat.le_refl, not_false_eq_true, not_true_eq_false, true_and, and_true, and_self, if_true, if_false, p1.o, p1.g3, hT, cl163 h163]
    exact ih
def sp164 : mv_Sp := fun As sh M Q => ∃ (b : Nat), As = [.ref 0, .int (nI b)] ∧ ((oM sh) ∧ (b + 799 ≤ 9588) ∧ (∃ n, n ≤ 6 ∧ M 0 3 = nI n)) ∧ Q (some (.int (slF (snY M b) (M 0 3).toNatClampNeg))) (sh) (M)
theorem cl164 {S : Nat → mv_Sp} (hS : S 164 = sp164) {sh : mv_Shp} {M : mv_Mem} {b : Nat} (p1 : oM sh) (p2 : b + 799 ≤ 9588) (p3 : ∃ n, n ≤ 6 ∧ M 0 3 = nI n) {K : mv_Kt} {pc : Nat} {L : mv_Loc} {st : List Value} {cc_ ss_ : Nat} : mv_kal S 164 [.ref 0, .int (nI b)] sh M K pc L st cc_ ss_ = K pc L ((some (.int (slF (snY M b) (M 0 3).toNatClampNeg)) : Option Value).toList ++ st) (sh) (M) cc_ ss_ := by
  refine q_kal (fun F => q_cali (fun Q => ?_))
  rw [hS]
  constructor
  · rintro ⟨b', hE, ⟨zp1, zp2, zp3⟩, hQ⟩
    simp only [List.cons.injEq, Value.ref.injEq, Value.int.injEq, Value.long.injEq, and_true, true_and] at hE
    have e_b := hE
    have z_b := nI_inj e_b (by omega) (by omega)
    subst z_b
    exact hQ
  · intro hQ
    exact ⟨b, rfl, ⟨p1, p2, p3⟩, hQ⟩
theorem ct164 {S : Nat → mv_Sp} (h163 : S 163 = sp163) : ∀ As sh M P, sp164 As sh M P → (mv_al0 As).length ≤ 4 ∧ mr164 S P 0 (mv_ent As 4) [] sh M 0 0 := by
  rintro As sh M P ⟨b, rfl, ⟨p1, p2, p3⟩, hQ⟩
  refine ⟨Nat.le_of_ble_eq_true rfl, ?_⟩
  show mr164 S P 0 [some (.ref 0), some (.int (nI b)), none, none] [] sh M 0 0
  obtain ⟨nT, h6, hT⟩ := p3
  rw [hT, q_cl (by omega)] at hQ
  simp (disch := first | assumption | omega) only [e164_0, e164_1, e164_2, e164_3, q_gv0, q_gvs, q_isI1, q_isA1, q_hs0, q_hsn, q_hsi, q_hsr, q_hss, q_inc1, List.set_cons_zero, List.set_cons_succ, ↓reduceIte, q_ss0, q_ssi, q_ssr, q_nr0, q_nr10, q_nr11, q_tlS, q_tlN, q_cl, q_let, q_lef, q_ltt, q_ltf, q_eqt, q_eqf, q_add, q_mul, Nat.reduceAdd, Nat.reduceLeDiff, Nat.reduceEqDiff, eq_self, Nat.zero_le, Nat.le_refl, not_false_eq_true, not_true_eq_false, true_and, and_true, and_self, if_true, if_false]
  exact lp164 h163 p1 p2 hT h6 hQ nT 0 (by omega)
def cpY (M : mv_Mem) (f t n : Nat) : mv_Mem := mv_wr M 1 (va_cpy (M 1) (M 1) f t n)
theorem cpY_out {M : mv_Mem} {f t n b : Nat} (h : ¬ b = 1) : cpY M f t n b = M b := q_wrO h
theorem cpY_in {M : mv_Mem} {f t n k : Nat} (h : k < n) : cpY M f t n 1 (t + k) = M 1 (f + k) := by
  unfold cpY
  rw [q_wrS, cpy_in h]
theorem cpY_at {M : mv_Mem} {f t n j : Nat} (h : j < t ∨ t + n ≤ j) : cpY M f t n 1 j = M 1 j := by
  unfold cpY
  rw [q_wrS, cpy_out h]
theorem cpY_step {M : mv_Mem} {f t k : Nat} (h : f + k < t ∨ t + k ≤ f + k) : mv_up (cpY M f t k) 1 (t + k) (cpY M f t k 1 (f + k)) = cpY M f t (k + 1) := by
  rw [cpY_at h]
  exact cpy_step rfl
theorem cpY_0 {M : mv_Mem} {f t : Nat} : cpY M f t 0 = M := by
  unfold cpY
  rw [cpy_0]
  exact wr_id
theorem lp165 {S : Nat → mv_Sp} {sh : mv_Shp} {M : mv_Mem} {P : mv_Post} {b p w d : Nat} (p1 : oM sh) (hb : b + 30 ≤ d) (hd : d + 32 ≤ 9588) (hQ : ∀ z, mr165 S P 56 [some (.ref 0), some (.int (nI b)), some (.int (nI p)), some (.int (nI w)), some (.int (nI d)), z] [] sh (cpY M b (d + 2) 30) 0 0) :
    ∀ n k, k + n = 30 → mr165 S P 22 [some (.ref 0), some (.int (nI b)), some (.int (nI p)), some (.int (nI w)), some (.int (nI d)), some (.int (nI k))] [] sh (cpY M b (d + 2) k) 0 0
  | 0, k, h => by
    obtain rfl : k = 30 := by omega
    rw [e165_22]
    simp (disch := first | assumption | omega) only [e165_24, e165_26, q_gv0, q_gvs, q_isI1, q_isA1, q_hs0, q_hsn, q_hsi, q_hsr, q_hss, q_inc1, List.set_cons_zero, List.set_cons_succ, ↓reduceIte, q_ss0, q_ssi, q_ssr, q_nr0, q_nr10, q_nr11, q_tlS, q_tlN, q_cl, q_let, q_lef, q_ltt, q_ltf, q_eqt, q_eqf, q_add, q_mul, Nat.reduceAdd, Nat.reduceLeDiff, Nat.reduceEqDiff, eq_self, Nat.zero_le, Nat.le_refl, not_false_eq_true, not_true_eq_false, true_and, and_true, and_self, if_true, if_false]
    exact hQ _
  | n + 1, k, h => by
    have ih := lp165 (S := S) p1 hb hd hQ n (k + 1) (by omega)
    rw [← cpY_step (by omega)] at ih
    rw [e165_22]
    simp (disch := first | assumption | omega) only [e165_24, e165_26, e165_29, e165_30, e165_33, e165_35, e165_36, e165_37, e165_39, e165_40, e165_41, e165_44, e165_45, e165_47, e165_48, e165_49, e165_50, e165_53, q_gv0, q_gvs, q_isI1, q_isA1, q_hs0, q_hsn, q_hsi, q_hsr, q_hss, q_inc1, List.set_cons_zero, List.set_cons_succ, ↓reduceIte, q_ss0, q_ssi, q_ssr, q_nr0, q_nr10, q_nr11, q_tlS, q_tlN, q_cl, q_let, q_lef, q_ltt, q_ltf, q_eqt, q_eqf, q_add, q_mul, Nat.reduceAdd, Nat.reduceLeDiff, Nat.reduceEqDiff, eq_self, Nat.zero_le, Nat.le_refl, not_false_eq_true, not_true_eq_false, true_and, and_true, and_self, if_true, if_false, p1.g0, p1.l1, p1.s1]
    exact ih
/-- a pick woven -/
def wvA (M : mv_Mem) (b : Nat) : mv_Mem := cpY M b (b + 31 + 32 * (M 1 (b + 30)).toNatClampNeg + 2) 30
def wvY (M : mv_Mem) (b p w : Nat) : mv_Mem :=
  mv_up (mv_up (mv_up (trY (wvA M b) b p w (M 0 3).toNatClampNeg) 1 (b + 31 + 32 * (M 1 (b + 30)).toNatClampNeg) (coY (trY (wvA M b) b p w (M 0 3).toNatClampNeg) b)) 1 (b + 31 + 32 * (M 1 (b + 30)).toNatClampNeg + 1) (slF (snY (trY (wvA M b) b p w (M 0 3).toNatClampNeg) b) (M 0 3).toNatClampNeg)) 1 (b + 30) (nI ((M 1 (b + 30)).toNatClampNeg + 1))
