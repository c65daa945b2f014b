/-! the model: laid -/
theorem fiM_at {M : mv_Mem} {a j : Nat} {v : Int32} : ∀ n, n ≤ j → fiM M a v n a j = M a j
  | 0, _ => rfl
  | n + 1, h => by
    unfold fiM
    rw [q_upN (by omega)]
    exact fiM_at n (by omega)
/-- one turn of the loop over the tablets -/
def l1F (M : mv_Mem) (nT : Nat) : Nat → mv_Mem
  | 0 => M
  | n + 1 => mv_up (mv_up (mv_up (mv_up (mv_up (l1F M nT n) 2 n (M 10 n)) 4 n (M 11 n)) 1 (0 + n) (if n < nT then M 11 n else nI 0)) 1 (24 + n) (Int32.ofInt (-4))) 5 n (M 13 n)
theorem l1F_out {M : mv_Mem} {nT b : Nat} (h1 : ¬ b = 1) (h2 : ¬ b = 2) (h4 : ¬ b = 4) (h5 : ¬ b = 5) : ∀ n, l1F M nT n b = M b
  | 0 => rfl
  | n + 1 => by
    unfold l1F
    rw [q_upO h5, q_upO h1, q_upO h1, q_upO h4, q_upO h2]
    exact l1F_out h1 h2 h4 h5 n
theorem l1F_2 {M : mv_Mem} {nT t : Nat} : ∀ n, t < n → l1F M nT n 2 t = M 10 t
  | 0, h => absurd h (by omega)
  | n + 1, h => by
    unfold l1F
    rw [q_upO (by decide), q_upO (by decide), q_upO (by decide), q_upO (by decide)]
    by_cases z : t = n
    · subst z; exact q_upS
    · rw [q_upN (fun y => z y.2)]; exact l1F_2 n (by omega)
theorem l1F_5 {M : mv_Mem} {nT t : Nat} : ∀ n, t < n → l1F M nT n 5 t = M 13 t
  | 0, h => absurd h (by omega)
  | n + 1, h => by
    unfold l1F
    by_cases z : t = n
    · subst z; exact q_upS
    · rw [q_upN (fun y => z y.2), q_upO (by decide), q_upO (by decide), q_upO (by decide), q_upO (by decide)]; exact l1F_5 n (by omega)
theorem l1F_1 {M : mv_Mem} {nT j : Nat} : ∀ n, n ≤ 6 → l1F M nT n 1 j = if j < n then (if j < nT then M 11 j else nI 0) else if 24 ≤ j ∧ j < 24 + n then Int32.ofInt (-4) else M 1 j
  | 0, _ => by
    rw [if_neg (by omega), if_neg (by omega)]
    rfl
  | n + 1, h => by
    have ih := l1F_1 (M := M) (nT := nT) (j := j) n (by omega)
    unfold l1F
    rw [q_upO (by decide)]
    by_cases z1 : j = 24 + n
    · subst z1
      rw [q_upS, if_neg (show ¬ 24 + n < n + 1 by omega), if_pos (show 24 ≤ 24 + n ∧ 24 + n < 24 + (n + 1) by omega)]
    rw [q_upN (fun y => z1 y.2)]
    by_cases z2 : j = 0 + n
    · subst z2
      rw [q_upS, if_pos (show 0 + n < n + 1 by omega), show 0 + n = n from Nat.zero_add n]
    · rw [q_upN (fun y => z2 y.2), q_upO (by decide), q_upO (by decide), ih]
      by_cases z3 : j < n
      · rw [if_pos z3, if_pos (show j < n + 1 by omega)]
      · rw [if_neg z3, if_neg (show ¬ j < n + 1 by omega)]
        by_cases z4 : 24 ≤ j ∧ j < 24 + n
        · rw [if_pos z4, if_pos (show 24 ≤ j ∧ j < 24 + (n + 1) by omega)]
        · rw [if_neg z4, if_neg (show ¬ (24 ≤ j ∧ j < 24 + (n + 1)) by omega)]
def caF (M : mv_Mem) (a b : Nat) : Nat → mv_Mem
  | 0 => M
  | n + 1 => mv_up (caF M a b n) b n (M a n)
theorem caF_out {M : mv_Mem} {a b c : Nat} (h : ¬ c = b) : ∀ n, caF M a b n c = M c
  | 0 => rfl
  | n + 1 => by unfold caF; rw [q_upO h]; exact caF_out h n
theorem caF_in {M : mv_Mem} {a b j : Nat} : ∀ n, j < n → caF M a b n b j = M a j
  | 0, h => absurd h (by omega)
  | n + 1, h => by
    unfold caF
    by_cases z : j = n
    · subst z; exact q_upS
    · rw [q_upN (fun y => z y.2)]; exact caF_in n (by omega)
theorem lp154a {S : Nat → mv_Sp} {sh : mv_Shp} {M : mv_Mem} {P : mv_Post} (p1 : oM sh) (hQ : ∀ z, mr154 S P 80 [some (.ref 0), z] [] sh (fiM M 1 (nI 0) 799) 0 0) :
    ∀ n k, k + n = 799 → mr154 S P 60 [some (.ref 0), some (.int (nI k))] [] sh (fiM M 1 (nI 0) k) 0 0
  | 0, k, h => by
    obtain rfl : k = 799 := by omega
    rw [e154_60]
    simp (disch := first | assumption | omega) only [e154_61, e154_64, q_gv0, q_gvs, q_isI1, q_isA1, q_hs0, q_hsn, q_hsi, q_hsr, q_hss, q_inc1, List.set_cons_zero, List.set_cons_succ, ↓reduceIte, q_ss0, q_ssi, q_ssr, q_nr0, q_nr10, q_nr11, q_tlS, q_tlN, q_cl, q_let, q_lef, q_ltt, q_ltf, q_eqt, q_eqf, q_add, q_mul, Nat.reduceAdd, Nat.reduceLeDiff, Nat.reduceEqDiff, eq_self, Nat.zero_le, Nat.le_refl, not_false_eq_true, not_true_eq_false, true_and, and_true, and_self, if_true, if_false]
    exact hQ _
  | n + 1, k, h => by
    have ih := lp154a (S := S) p1 hQ n (k + 1) (by omega)
    unfold fiM at ih
    rw [e154_60]
    simp (disch := first | assumption | omega) only [e154_61, e154_64, e154_67, e154_68, e154_71, e154_72, e154_73, e154_74, e154_77, q_gv0, q_gvs, q_isI1, q_isA1, q_hs0, q_hsn, q_hsi, q_hsr, q_hss, q_inc1, List.set_cons_zero, List.set_cons_succ, ↓reduceIte, q_ss0, q_ssi, q_ssr, q_nr0, q_nr10, q_nr11, q_tlS, q_tlN, q_cl, q_let, q_lef, q_ltt, q_ltf, q_eqt, q_eqf, q_add, q_mul, Nat.reduceAdd, Nat.reduceLeDiff, Nat.reduceEqDiff, eq_self, Nat.zero_le, Nat.le_refl, not_false_eq_true, not_true_eq_false, true_and, and_true, and_self, if_true, if_false, p1.g0, p1.s1]
    exact ih
theorem lp154b {S : Nat → mv_Sp} {sh : mv_Shp} {M : mv_Mem} {P : mv_Post} {nT : Nat} (p1 : oM sh) (hT : M 0 3 = nI nT) (hT6 : nT ≤ 6) (hQ : ∀ z, mr154 S P 167 [some (.ref 0), z] [] sh (l1F M nT 6) 0 0) :
    ∀ n k, k + n = 6 → mr154 S P 82 [some (.ref 0), some (.int (nI k))] [] sh (l1F M nT k) 0 0
  | 0, k, h => by
    obtain rfl : k = 6 := by omega
    rw [e154_82]
    simp (disch := first | assumption | omega) only [e154_83, e154_85, q_gv0, q_gvs, q_isI1, q_isA1, q_hs0, q_hsn, q_hsi, q_hsr, q_hss, q_inc1, List.set_cons_zero, List.set_cons_succ, ↓reduceIte, q_ss0, q_ssi, q_ssr, q_nr0, q_nr10, q_nr11, q_tlS, q_tlN, q_cl, q_let, q_lef, q_ltt, q_ltf, q_eqt, q_eqf, q_add, q_mul, Nat.reduceAdd, Nat.reduceLeDiff, Nat.reduceEqDiff, eq_self, Nat.zero_le, Nat.le_refl, not_false_eq_true, not_true_eq_false, true_and, and_true, and_self, if_true, if_false]
    exact hQ _
  | n + 1, k, h => by
    have ih := lp154b (S := S) p1 hT hT6 hQ n (k + 1) (by omega)
    have e0 : l1F M nT k 0 3 = nI nT := by rw [l1F_out (by decide) (by decide) (by decide) (by decide)]; exact hT
    have e10 : l1F M nT k 10 = M 10 := l1F_out (by decide) (by decide) (by decide) (by decide) _
    have e11 : l1F M nT k 11 = M 11 := l1F_out (by decide) (by decide) (by decide) (by decide) _
    have e13 : l1F M nT k 13 = M 13 := l1F_out (by decide) (by decide) (by decide) (by decide) _
    unfold l1F at ih
    rw [e154_82]
    by_cases c : k < nT
    · rw [if_pos c] at ih
      simp (disch := first | assumption | omega) only [e154_83, e154_85, e154_88, e154_89, e154_92, e154_93, e154_94, e154_97, e154_98, e154_99, e154_100, e154_101, e154_104, e154_105, e154_106, e154_109, e154_110, e154_111, e154_112, e154_113, e154_116, e154_117, e154_118, e154_119, e154_120, e154_121, e154_124, e154_127, e154_128, e154_131, e154_132, e154_133, e154_136, e154_137, e154_138, e154_139, e154_142, e154_144, e154_145, e154_146, e154_148, e154_149, e154_150, e154_153, e154_154, e154_155, e154_158, e154_159, e154_160, e154_161, e154_164, q_gv0, q_gvs, q_isI1, q_isA1, q_hs0, q_hsn, q_hsi, q_hsr, q_hss, q_inc1, List.set_cons_zero, List.set_cons_succ, ↓reduceIte, q_ss0, q_ssi, q_ssr, q_nr0, q_nr10, q_nr11, q_tlS, q_tlN, q_cl, q_let, q_lef, q_ltt, q_ltf, q_eqt, q_eqf, q_add, q_mul, Nat.reduceAdd, Nat.reduceLeDiff, Nat.reduceEqDiff, eq_self, Nat.zero_le, Nat.le_refl, not_false_eq_true, not_true_eq_false, true_and, and_true, and_self, if_true, if_false, p1.g0, p1.g3, p1.g4, p1.g6, p1.g8, p1.g20, p1.g21, p1.g24, p1.l10, p1.l11, p1.l13, p1.s2, p1.s4, p1.s5, p1.s1, q_upO, e0, e10, e11, e13]
      exact ih
    · rw [if_neg c] at ih
      simp (disch := first | assumption | omega) only [e154_83, e154_85, e154_88, e154_89, e154_92, e154_93, e154_94, e154_97, e154_98, e154_99, e154_100, e154_101, e154_104, e154_105, e154_106, e154_109, e154_110, e154_111, e154_112, e154_113, e154_116, e154_117, e154_118, e154_119, e154_120, e154_121, e154_124, e154_127, e154_128, e154_131, e154_132, e154_133, e154_136, e154_137, e154_138, e154_139, e154_142, e154_144, e154_145, e154_146, e154_148, e154_149, e154_150, e154_153, e154_154, e154_155, e154_158, e154_159, e154_160, e154_161, e154_164, q_gv0, q_gvs, q_isI1, q_isA1, q_hs0, q_hsn, q_hsi, q_hsr, q_hss, q_inc1, List.set_cons_zero, List.set_cons_succ, ↓reduceIte, q_ss0, q_ssi, q_ssr, q_nr0, q_nr10, q_nr11, q_tlS, q_tlN, q_cl, q_let, q_lef, q_ltt, q_ltf, q_eqt, q_eqf, q_add, q_mul, Nat.reduceAdd, Nat.reduceLeDiff, Nat.reduceEqDiff, eq_self, Nat.zero_le, Nat.le_refl, not_false_eq_true, not_true_eq_false, true_and, and_true, and_self, if_true, if_false, p1.g0, p1.g3, p1.g4, p1.g6, p1.g8, p1.g20, p1.g21, p1.g24, p1.l10, p1.l11, p1.l13, p1.s2, p1.s4, p1.s5, p1.s1, q_upO, e0, e10, e11, e13]
      exact ih
theorem lp154c {S : Nat → mv_Sp} {sh : mv_Shp} {M : mv_Mem} {P : mv_Post} (p1 : oM sh) (hQ : ∀ z, mr154 S P 193 [some (.ref 0), z] [] sh (caF M 12 3 24) 0 0) :
    ∀ n k, k + n = 24 → mr154 S P 169 [some (.ref 0), some (.int (nI k))] [] sh (caF M 12 3 k) 0 0
  | 0, k, h => by
    obtain rfl : k = 24 := by omega
    rw [e154_169]
    simp (disch := first | assumption | omega) only [e154_170, e154_172, q_gv0, q_gvs, q_isI1, q_isA1, q_hs0, q_hsn, q_hsi, q_hsr, q_hss, q_inc1, List.set_cons_zero, List.set_cons_succ, ↓reduceIte, q_ss0, q_ssi, q_ssr, q_nr0, q_nr10, q_nr11, q_tlS, q_tlN, q_cl, q_let, q_lef, q_ltt, q_ltf, q_eqt, q_eqf, q_add, q_mul, Nat.reduceAdd, Nat.reduceLeDiff, Nat.reduceEqDiff, eq_self, Nat.zero_le, Nat.le_refl, not_false_eq_true, not_true_eq_false, true_and, and_true, and_self, if_true, if_false]
    exact hQ _
  | n + 1, k, h => by
    have ih := lp154c (S := S) p1 hQ n (k + 1) (by omega)
    have e : caF M 12 3 k 12 = M 12 := caF_out (by decide) _
    unfold caF at ih
    rw [e154_169]
    simp (disch := first | assumption | omega) only [e154_170, e154_172, e154_175, e154_176, e154_179, e154_180, e154_181, e154_184, e154_185, e154_186, e154_187, e154_190, q_gv0, q_gvs, q_isI1, q_isA1, q_hs0, q_hsn, q_hsi, q_hsr, q_hss, q_inc1, List.set_cons_zero, List.set_cons_succ, ↓reduceIte, q_ss0, q_ssi, q_ssr, q_nr0, q_nr10, q_nr11, q_tlS, q_tlN, q_cl, q_let, q_lef, q_ltt, q_ltf, q_eqt, q_eqf, q_add, q_mul, Nat.reduceAdd, Nat.reduceLeDiff, Nat.reduceEqDiff, eq_self, Nat.zero_le, Nat.le_refl, not_false_eq_true, not_true_eq_false, true_and, and_true, and_self, if_true, if_false, p1.g5, p1.g22, p1.l12, p1.s3, e]
    exact ih
theorem lp154d {S : Nat → mv_Sp} {sh : mv_Shp} {M : mv_Mem} {P : mv_Post} (p1 : oM sh) (hQ : ∀ z, mr154 S P 219 [some (.ref 0), z] [] sh (caF M 14 6 8) 0 0) :
    ∀ n k, k + n = 8 → mr154 S P 195 [some (.ref 0), some (.int (nI k))] [] sh (caF M 14 6 k) 0 0
  | 0, k, h => by
    obtain rfl : k = 8 := by omega
    rw [e154_195]
    simp (disch := first | assumption | omega) only [e154_196, e154_198, q_gv0, q_gvs, q_isI1, q_isA1, q_hs0, q_hsn, q_hsi, q_hsr, q_hss, q_inc1, List.set_cons_zero, List.set_cons_succ, ↓reduceIte, q_ss0, q_ssi, q_ssr, q_nr0, q_nr10, q_nr11, q_tlS, q_tlN, q_cl, q_let, q_lef, q_ltt, q_ltf, q_eqt, q_eqf, q_add, q_mul, Nat.reduceAdd, Nat.reduceLeDiff, Nat.reduceEqDiff, eq_self, Nat.zero_le, Nat.le_refl, not_false_eq_true, not_true_eq_false, true_and, and_true, and_self, if_true, if_false]
    exact hQ _
  | n + 1, k, h => by
    have ih := lp154d (S := S) p1 hQ n (k + 1) (by omega)
    have e : caF M 14 6 k 14 = M 14 := caF_out (by decide) _
    unfold caF at ih
    rw [e154_195]
    simp (disch := first | assumption | omega) only [e154_196, e154_198, e154_201, e154_202, e154_205, e154_206, e154_207, e154_210, e154_211, e154_212, e154_213, e154_216, q_gv0, q_gvs, q_isI1, q_isA1, q_hs0, q_hsn, q_hsi, q_hsr, q_hss, q_inc1, List.set_cons_zero, List.set_cons_succ, ↓reduceIte, q_ss0, q_ssi, q_ssr, q_nr0, q_nr10, q_nr11, q_tlS, q_tlN, q_cl, q_let, q_lef, q_ltt, q_ltf, q_eqt, q_eqf, q_add, q_mul, Nat.reduceAdd, Nat.reduceLeDiff, Nat.reduceEqDiff, eq_self, Nat.zero_le, Nat.le_refl, not_false_eq_true, not_true_eq_false, true_and, and_true, and_self, if_true, if_false, p1.g11, p1.g27, p1.l14, p1.s6, e]
    exact ih
/-- what laying leaves in the model -/
def laE (N N' : mv_Mem) : Prop := N' 0 3 = N 0 19 ∧ N' 0 7 = N 0 23 ∧ N' 0 9 = N 0 25 ∧ N' 0 10 = N 0 26 ∧ N' 0 1 = nI 0 ∧ N' 0 2 = nI 0 ∧ N' 0 14 = nI 0 ∧ N' 0 13 = N 0 13 ∧ N' 7 = N 7 ∧
  (∀ t, t < 6 → N' 2 t = N 10 t) ∧ (∀ i, i < 24 → N' 3 i = N 12 i) ∧ (∀ p, p < 6 → N' 5 p = N 13 p) ∧ (∀ k, k < 8 → N' 6 k = N 14 k) ∧
  (∀ j, j < 799 → N' 1 j = if j < 6 then (if j < (N 0 19).toNatClampNeg then N 11 j else nI 0) else if 24 ≤ j ∧ j < 30 then Int32.ofInt (-4) else nI 0)
def sp154 : mv_Sp := fun As sh M Q => ∃ X, As = [.ref 0] ∧ oM sh ∧ tX X ∧ gL X 11 ∧ tY M ∧ lx X = ly M ∧
  (lyN X = 1 → ∀ N N', rdE M N → rB (tdM X).2 N → laE N N' → Q (some (.int (N 0 19))) sh N') ∧ (lyN X = 0 → ∀ N, rdE M N → Q (some (.int (Int32.ofInt (-2)))) sh N)
theorem ct154 {S : Nat → mv_Sp} (h153 : S 153 = sp153) : ∀ As sh M P, sp154 As sh M P → (mv_al0 As).length ≤ 2 ∧ mr154 S P 0 (mv_ent As 2) [] sh M 0 0 := by
  rintro As sh M P ⟨X, rfl, p1, tXX, gX, tM, hl, k1, k0⟩
  refine ⟨Nat.le_of_ble_eq_true rfl, ?_⟩
  show mr154 S P 0 [some (.ref 0), none] [] sh M 0 0
  simp (disch := first | assumption | omega) only [e154_0, e154_1, q_gv0, q_gvs, q_isI1, q_isA1, q_hs0, q_hsn, q_hsi, q_hsr, q_hss, q_inc1, List.set_cons_zero, List.set_cons_succ, ↓reduceIte, q_ss0, q_ssi, q_ssr, q_nr0, q_nr10, q_nr11, q_tlS, q_tlN, q_cl, q_let, q_lef, q_ltt, q_ltf, q_eqt, q_eqf, q_add, q_mul, Nat.reduceAdd, Nat.reduceLeDiff, Nat.reduceEqDiff, eq_self, Nat.zero_le, Nat.le_refl, not_false_eq_true, not_true_eq_false, true_and, and_true, and_self, if_true, if_false, p1.o]
  refine kal_of ?_
  rw [h153]
  refine ⟨X, rfl, p1, tXX, gX, tM, hl, fun e N rN b => ?_, fun e N rN => ?_⟩
  · show mr154 S P 4 [some (.ref 0), none] [.int (Int32.ofInt (-4))] sh N 0 0
    obtain ⟨⟨nT, h6, hX0, hM0, -⟩, ⟨nP, hP6, hX1, hM1, -⟩, -⟩ := id b
    by_cases c1 : nT = 0
    · subst c1
      simp (disch := first | assumption | omega) only [e154_4, e154_6, e154_9, e154_10, e154_13, e154_16, e154_17, e154_20, e154_23, e154_25, q_gv0, q_gvs, q_isI1, q_isA1, q_hs0, q_hsn, q_hsi, q_hsr, q_hss, q_inc1, List.set_cons_zero, List.set_cons_succ, ↓reduceIte, q_ss0, q_ssi, q_ssr, q_nr0, q_nr10, q_nr11, q_tlS, q_tlN, q_cl, q_let, q_lef, q_ltt, q_ltf, q_eqt, q_eqf, q_add, q_mul, Nat.reduceAdd, Nat.reduceLeDiff, Nat.reduceEqDiff, eq_self, Nat.zero_le, Nat.le_refl, not_false_eq_true, not_true_eq_false, true_and, and_true, and_self, if_true, if_false, p1.g19, hM0]
      exact k0 (if_neg (fun z => z.2.1 hX0)) _ rN
    by_cases c2 : nP = 0
    · subst c2
      simp (disch := first | assumption | omega) only [e154_4, e154_6, e154_9, e154_10, e154_13, e154_16, e154_17, e154_20, e154_23, e154_25, q_gv0, q_gvs, q_isI1, q_isA1, q_hs0, q_hsn, q_hsi, q_hsr, q_hss, q_inc1, List.set_cons_zero, List.set_cons_succ, ↓reduceIte, q_ss0, q_ssi, q_ssr, q_nr0, q_nr10, q_nr11, q_tlS, q_tlN, q_cl, q_let, q_lef, q_ltt, q_ltf, q_eqt, q_eqf, q_add, q_mul, Nat.reduceAdd, Nat.reduceLeDiff, Nat.reduceEqDiff, eq_self, Nat.zero_le, Nat.le_refl, not_false_eq_true, not_true_eq_false, true_and, and_true, and_self, if_true, if_false, p1.g19, p1.g23, hM0, hM1]
      exact k0 (if_neg (fun z => z.2.2 hX1)) _ rN
    have ly1 : lyN X = 1 := if_pos ⟨e, fun z => c1 (nI_inj (hX0.symm.trans z) (by omega) (by omega)), fun z => c2 (nI_inj (hX1.symm.trans z) (by omega) (by omega))⟩
    simp (disch := first | assumption | omega) only [e154_4, e154_6, e154_9, e154_10, e154_13, e154_16, e154_17, e154_20, e154_26, e154_27, e154_28, e154_31, e154_34, e154_35, e154_36, e154_39, e154_42, e154_43, e154_44, e154_47, e154_50, e154_51, e154_52, e154_55, e154_58, e154_59, q_gv0, q_gvs, q_isI1, q_isA1, q_hs0, q_hsn, q_hsi, q_hsr, q_hss, q_inc1, List.set_cons_zero, List.set_cons_succ, ↓reduceIte, q_ss0, q_ssi, q_ssr, q_nr0, q_nr10, q_nr11, q_tlS, q_tlN, q_cl, q_let, q_lef, q_ltt, q_ltf, q_eqt, q_eqf, q_add, q_mul, Nat.reduceAdd, Nat.reduceLeDiff, Nat.reduceEqDiff, eq_self, Nat.zero_le, Nat.le_refl, not_false_eq_true, not_true_eq_false, true_and, and_true, and_self, if_true, if_false, p1.g19, p1.g23, p1.g25, p1.g26, p1.p3, p1.p7, p1.p9, p1.p10, hM0, hM1, q_upN]
    have ea : ∀ b, ¬ b = 0 → mv_up (mv_up (mv_up (mv_up N 0 3 (nI nT)) 0 7 (nI nP)) 0 9 (N 0 25)) 0 10 (N 0 26) b = N b := fun b hb => by rw [q_upO hb, q_upO hb, q_upO hb, q_upO hb]
    have e3 : mv_up (mv_up (mv_up (mv_up N 0 3 (nI nT)) 0 7 (nI nP)) 0 9 (N 0 25)) 0 10 (N 0 26) 0 3 = nI nT := by rw [q_upN (by decide), q_upN (by decide), q_upN (by decide), q_upS]
    have e7 : mv_up (mv_up (mv_up (mv_up N 0 3 (nI nT)) 0 7 (nI nP)) 0 9 (N 0 25)) 0 10 (N 0 26) 0 7 = nI nP := by rw [q_upN (by decide), q_upN (by decide), q_upS]
    have e9 : mv_up (mv_up (mv_up (mv_up N 0 3 (nI nT)) 0 7 (nI nP)) 0 9 (N 0 25)) 0 10 (N 0 26) 0 9 = N 0 25 := by rw [q_upN (by decide), q_upS]
    have e10 : mv_up (mv_up (mv_up (mv_up N 0 3 (nI nT)) 0 7 (nI nP)) 0 9 (N 0 25)) 0 10 (N 0 26) 0 10 = N 0 26 := q_upS
    have e13 : mv_up (mv_up (mv_up (mv_up N 0 3 (nI nT)) 0 7 (nI nP)) 0 9 (N 0 25)) 0 10 (N 0 26) 0 13 = N 0 13 := by rw [q_upN (by decide), q_upN (by decide), q_upN (by decide), q_upN (by decide)]
    generalize mv_up (mv_up (mv_up (mv_up N 0 3 (nI nT)) 0 7 (nI nP)) 0 9 (N 0 25)) 0 10 (N 0 26) = A at *
    refine lp154a p1 (fun z => ?_) 799 0 rfl
    simp (disch := first | assumption | omega) only [e154_80, e154_81, q_gv0, q_gvs, q_isI1, q_isA1, q_hs0, q_hsn, q_hsi, q_hsr, q_hss, q_inc1, List.set_cons_zero, List.set_cons_succ, ↓reduceIte, q_ss0, q_ssi, q_ssr, q_nr0, q_nr10, q_nr11, q_tlS, q_tlN, q_cl, q_let, q_lef, q_ltt, q_ltf, q_eqt, q_eqf, q_add, q_mul, Nat.reduceAdd, Nat.reduceLeDiff, Nat.reduceEqDiff, eq_self, Nat.zero_le, Nat.le_refl, not_false_eq_true, not_true_eq_false, true_and, and_true, and_self, if_true, if_false]
    refine lp154b (M := fiM A 1 (nI 0) 799) p1 (by rw [fiM_out (by decide)]; exact e3) h6 (fun z => ?_) 6 0 rfl
    simp (disch := first | assumption | omega) only [e154_167, e154_168, q_gv0, q_gvs, q_isI1, q_isA1, q_hs0, q_hsn, q_hsi, q_hsr, q_hss, q_inc1, List.set_cons_zero, List.set_cons_succ, ↓reduceIte, q_ss0, q_ssi, q_ssr, q_nr0, q_nr10, q_nr11, q_tlS, q_tlN, q_cl, q_let, q_lef, q_ltt, q_ltf, q_eqt, q_eqf, q_add, q_mul, Nat.reduceAdd, Nat.reduceLeDiff, Nat.reduceEqDiff, eq_self, Nat.zero_le, Nat.le_refl, not_false_eq_true, not_true_eq_false, true_and, and_true, and_self, if_true, if_false]
    refine lp154c (M := l1F (fiM A 1 (nI 0) 799) nT 6) p1 (fun z => ?_) 24 0 rfl
    simp (disch := first | assumption | omega) only [e154_193, e154_194, q_gv0, q_gvs, q_isI1, q_isA1, q_hs0, q_hsn, q_hsi, q_hsr, q_hss, q_inc1, List.set_cons_zero, List.set_cons_succ, ↓reduceIte, q_ss0, q_ssi, q_ssr, q_nr0, q_nr10, q_nr11, q_tlS, q_tlN, q_cl, q_let, q_lef, q_ltt, q_ltf, q_eqt, q_eqf, q_add, q_mul, Nat.reduceAdd, Nat.reduceLeDiff, Nat.reduceEqDiff, eq_self, Nat.zero_le, Nat.le_refl, not_false_eq_true, not_true_eq_false, true_and, and_true, and_self, if_true, if_false]
    have z0 : ∀ M : mv_Mem, caF M 14 6 0 = M := fun _ => rfl
    rw [← z0 (caF (l1F (fiM A 1 (nI 0) 799) nT 6) 12 3 24)]
    refine lp154d (M := caF (l1F (fiM A 1 (nI 0) 799) nT 6) 12 3 24) p1 (fun z => ?_) 8 0 rfl
    have o0 : caF (caF (l1F (fiM A 1 (nI 0) 799) nT 6) 12 3 24) 14 6 8 0 = A 0 := by rw [caF_out (by decide), caF_out (by decide), l1F_out (by decide) (by decide) (by decide) (by decide), fiM_out (by decide)]
    have o3 : caF (caF (l1F (fiM A 1 (nI 0) 799) nT 6) 12 3 24) 14 6 8 0 3 = nI nT := by rw [o0]; exact e3
    simp (disch := first | assumption | omega) only [e154_219, e154_220, e154_221, e154_224, e154_225, e154_226, e154_229, e154_230, e154_231, e154_234, e154_235, e154_238, q_gv0, q_gvs, q_isI1, q_isA1, q_hs0, q_hsn, q_hsi, q_hsr, q_hss, q_inc1, List.set_cons_zero, List.set_cons_succ, ↓reduceIte, q_ss0, q_ssi, q_ssr, q_nr0, q_nr10, q_nr11, q_tlS, q_tlN, q_cl, q_let, q_lef, q_ltt, q_ltf, q_eqt, q_eqf, q_add, q_mul, Nat.reduceAdd, Nat.reduceLeDiff, Nat.reduceEqDiff, eq_self, Nat.zero_le, Nat.le_refl, not_false_eq_true, not_true_eq_false, true_and, and_true, and_self, if_true, if_false, p1.p1, p1.p2, p1.p14, p1.g3, q_upN, o3]
    rw [← hM0]
    refine k1 ly1 N _ rN b ⟨?_, ?_, ?_, ?_, ?_, ?_, q_upS, ?_, ?_, fun t ht => ?_, fun i hi => ?_, fun p hp => ?_, fun k hk => ?_, fun j hj => ?_⟩
    · rw [q_upN (by decide), q_upN (by decide), q_upN (by decide), o3]; exact hM0.symm
    · rw [q_upN (by decide), q_upN (by decide), q_upN (by decide), o0, e7]; exact hM1.symm
    · rw [q_upN (by decide), q_upN (by decide), q_upN (by decide), o0, e9]
    · rw [q_upN (by decide), q_upN (by decide), q_upN (by decide), o0, e10]
    · rw [q_upN (by decide), q_upN (by decide), q_upS]
    · rw [q_upN (by decide), q_upS]
    · rw [q_upN (by decide), q_upN (by decide), q_upN (by decide), o0, e13]
    · rw [q_upO (by decide), q_upO (by decide), q_upO (by decide), caF_out (by decide), caF_out (by decide), l1F_out (by decide) (by decide) (by decide) (by decide), fiM_out (by decide), ea 7 (by decide)]
    · rw [q_upO (by decide), q_upO (by decide), q_upO (by decide), caF_out (by decide), caF_out (by decide), l1F_2 6 ht, fiM_out (by decide), ea 10 (by decide)]
    · rw [q_upO (by decide), q_upO (by decide), q_upO (by decide), caF_out (by decide), caF_in 24 hi, l1F_out (by decide) (by decide) (by decide) (by decide), fiM_out (by decide), ea 12 (by decide)]
    · rw [q_upO (by decide), q_upO (by decide), q_upO (by decide), caF_out (by decide), caF_out (by decide), l1F_5 6 hp, fiM_out (by decide), ea 13 (by decide)]
    · rw [q_upO (by decide), q_upO (by decide), q_upO (by decide), caF_in 8 hk, caF_out (by decide), l1F_out (by decide) (by decide) (by decide) (by decide), fiM_out (by decide), ea 14 (by decide)]
    · rw [q_upO (by decide), q_upO (by decide), q_upO (by decide), caF_out (by decide), caF_out (by decide), l1F_1 6 (by decide), fiM_out (by decide), ea 11 (by decide), fiM_in 799 j hj, hM0, q_cl (by omega)]
  · show mr154 S P 4 [some (.ref 0), none] [.int (tdM X).1] sh N 0 0
    simp (disch := first | assumption | omega) only [e154_4, e154_6, e154_9, e154_10, e154_13, e154_16, e154_17, e154_20, e154_23, e154_25, q_gv0, q_gvs, q_isI1, q_isA1, q_hs0, q_hsn, q_hsi, q_hsr, q_hss, q_inc1, List.set_cons_zero, List.set_cons_succ, ↓reduceIte, q_ss0, q_ssi, q_ssr, q_nr0, q_nr10, q_nr11, q_tlS, q_tlN, q_cl, q_let, q_lef, q_ltt, q_ltf, q_eqt, q_eqf, q_add, q_mul, Nat.reduceAdd, Nat.reduceLeDiff, Nat.reduceEqDiff, eq_self, Nat.zero_le, Nat.le_refl, not_false_eq_true, not_true_eq_false, true_and, and_true, and_self, if_true, if_false, e]
    exact k0 (if_neg (fun z => e z.1)) _ rN
