/-! the model: ways, lies -/
def woF (M : mv_Mem) (h : Nat) (c : Int32) : Nat → Int32
  | 0 => nI 0
  | s + 1 => if M 16 (plN h (M 15 s).toNatClampNeg) = c then woF M h c s + M 22 (plN h (M 15 s).toNatClampNeg) else woF M h c s
theorem woF_of {M N : mv_Mem} {h : Nat} {c : Int32} (e15 : N 15 = M 15) (e16 : N 16 = M 16) (e22 : N 22 = M 22) : ∀ n, woF N h c n = woF M h c n
  | 0 => rfl
  | n + 1 => by unfold woF; rw [e15, e16, e22, woF_of e15 e16 e22 n]
theorem lp197 {S : Nat → mv_Sp} (h171 : S 171 = sp171) {sh : mv_Shp} {M : mv_Mem} {P : mv_Post} {A nP h : Nat} {x : Int32} (p1 : oM sh) (g : gS M A nP) (hh : h < A) (hQ : P (some (.int (woF M h x (2 * nP)))) sh M) :
    ∀ n s z, s + n = 2 * nP → mr197 S P 5 [some (.ref 0), some (.int (nI h)), some (.int x), some (.int (woF M h x s)), some (.int (nI s)), z] [] sh M 0 0
  | 0, s, z, e => by
    obtain rfl : s = 2 * nP := by omega
    have g7 := g.2.2.1
    have g6 := g.2.2.2.1
    rw [e197_5]
    simp (disch := first | assumption | omega) only [e197_0, e197_1, e197_2, e197_3, e197_7, e197_8, e197_9, e197_12, e197_13, e197_16, e197_17, e197_18, e197_21, e197_23, e197_24, e197_27, e197_29, e197_30, e197_31, e197_34, e197_36, e197_37, e197_38, e197_41, e197_42, e197_45, e197_47, e197_48, e197_51, e197_52, e197_53, e197_54, e197_57, e197_60, e197_61, q_gv0, q_gvs, q_isI1, q_isA1, q_hs0, q_hsn, q_hsi, q_hsr, q_hss, q_inc1, List.set_cons_zero, List.set_cons_succ, ↓reduceIte, q_ss0, q_ssi, q_ssr, q_nr0, q_nr10, q_nr11, q_tlS, q_tlN, q_cl, q_let, q_lef, q_ltt, q_ltf, q_eqt, q_eqf, q_add, q_mul, Nat.reduceAdd, Nat.reduceLeDiff, Nat.reduceEqDiff, eq_self, Nat.zero_le, Nat.le_refl, not_false_eq_true, not_true_eq_false, true_and, and_true, and_self, if_true, if_false, p1.g7, g7]
    exact hQ
  | n + 1, s, z, e => by
    have ih := lp197 h171 p1 g hh hQ n (s + 1)
    have g7 := g.2.2.1
    have g6 := g.2.2.2.1
    have hA := gS_A g
    obtain ⟨k, hk, hK⟩ := g.2.2.2.2 s (by omega)
    obtain ⟨q, hq, hq2⟩ := g.2.1
    have pl : plN h k < A := by subst hq2; exact plN_lt hq hh hk
    have pl4 : plN h k < 4096 := by omega
    have s12 : s < 12 := by omega
    unfold woF at ih
    rw [hK, q_cl (by omega)] at ih
    rw [e197_5]
    by_cases c : M 16 (plN h k) = x
    · rw [if_pos c] at ih
      simp (disch := first | assumption | omega) only [e197_0, e197_1, e197_2, e197_3, e197_7, e197_8, e197_9, e197_12, e197_13, e197_16, e197_17, e197_18, e197_21, e197_23, e197_24, e197_27, e197_29, e197_30, e197_31, e197_34, e197_36, e197_37, e197_38, e197_41, e197_42, e197_45, e197_47, e197_48, e197_51, e197_52, e197_53, e197_54, e197_57, e197_60, e197_61, q_gv0, q_gvs, q_isI1, q_isA1, q_hs0, q_hsn, q_hsi, q_hsr, q_hss, q_inc1, List.set_cons_zero, List.set_cons_succ, ↓reduceIte, q_ss0, q_ssi, q_ssr, q_nr0, q_nr10, q_nr11, q_tlS, q_tlN, q_cl, q_let, q_lef, q_ltt, q_ltf, q_eqt, q_eqf, q_add, q_mul, Nat.reduceAdd, Nat.reduceLeDiff, Nat.reduceEqDiff, eq_self, Nat.zero_le, Nat.le_refl, not_false_eq_true, not_true_eq_false, true_and, and_true, and_self, if_true, if_false, p1.g7, p1.g28, p1.g29, p1.g37, p1.l15, p1.l16, p1.l22, g7, hK, cr171 h171, c]
      exact ih _ (by omega)
    · rw [if_neg c] at ih
      simp (disch := first | assumption | omega) only [e197_0, e197_1, e197_2, e197_3, e197_7, e197_8, e197_9, e197_12, e197_13, e197_16, e197_17, e197_18, e197_21, e197_23, e197_24, e197_27, e197_29, e197_30, e197_31, e197_34, e197_36, e197_37, e197_38, e197_41, e197_42, e197_45, e197_47, e197_48, e197_51, e197_52, e197_53, e197_54, e197_57, e197_60, e197_61, q_gv0, q_gvs, q_isI1, q_isA1, q_hs0, q_hsn, q_hsi, q_hsr, q_hss, q_inc1, List.set_cons_zero, List.set_cons_succ, ↓reduceIte, q_ss0, q_ssi, q_ssr, q_nr0, q_nr10, q_nr11, q_tlS, q_tlN, q_cl, q_let, q_lef, q_ltt, q_ltf, q_eqt, q_eqf, q_add, q_mul, Nat.reduceAdd, Nat.reduceLeDiff, Nat.reduceEqDiff, eq_self, Nat.zero_le, Nat.le_refl, not_false_eq_true, not_true_eq_false, true_and, and_true, and_self, if_true, if_false, p1.g7, p1.g28, p1.g29, p1.g37, p1.l15, p1.l16, p1.l22, g7, hK, cr171 h171, c, i0a]
      exact ih _ (by omega)
def sp197 : mv_Sp := fun As sh M Q => ∃ (h : Nat) (x : Int32), As = [.ref 0, .int (nI h), .int x] ∧ ((oM sh) ∧ (h < 4096) ∧ (∃ A nP, gS M A nP ∧ h < A)) ∧ Q (some (.int (woF M h x (2 * (M 0 7).toNatClampNeg)))) (sh) (M)
theorem cl197 {S : Nat → mv_Sp} (hS : S 197 = sp197) {sh : mv_Shp} {M : mv_Mem} {h : Nat} {x : Int32} (p1 : oM sh) (p2 : h < 4096) (p3 : ∃ A nP, gS M A nP ∧ h < A) {K : mv_Kt} {pc : Nat} {L : mv_Loc} {st : List Value} {cc_ ss_ : Nat} : mv_kal S 197 [.ref 0, .int (nI h), .int x] sh M K pc L st cc_ ss_ = K pc L ((some (.int (woF M h x (2 * (M 0 7).toNatClampNeg))) : Option Value).toList ++ st) (sh) (M) cc_ ss_ := by
  refine q_kal (fun F => q_cali (fun Q => ?_))
  rw [hS]
  constructor
  · rintro ⟨h', x', hE, ⟨zp1, zp2, zp3⟩, hQ⟩
    simp only [List.cons.injEq, Value.ref.injEq, Value.int.injEq, Value.long.injEq, and_true, true_and] at hE
    obtain ⟨e_h, rfl⟩ := hE
    have z_h := nI_inj e_h (by omega) (by omega)
    subst z_h
    exact hQ
  · intro hQ
    exact ⟨h, x, rfl, ⟨p1, p2, p3⟩, hQ⟩
theorem ct197 {S : Nat → mv_Sp} (h171 : S 171 = sp171) : ∀ As sh M P, sp197 As sh M P → (mv_al0 As).length ≤ 6 ∧ mr197 S P 0 (mv_ent As 6) [] sh M 0 0 := by
  rintro As sh M P ⟨h, x, rfl, ⟨p1, p2, p3⟩, hQ⟩
  refine ⟨Nat.le_of_ble_eq_true rfl, ?_⟩
  show mr197 S P 0 [some (.ref 0), some (.int (nI h)), some (.int x), none, none, none] [] sh M 0 0
  obtain ⟨A, nP, g, hh⟩ := p3
  have g6 := g.2.2.2.1
  rw [g.2.2.1, q_cl (by omega)] at hQ
  simp (disch := first | assumption | omega) only [e197_0, e197_1, e197_2, e197_3, q_gv0, q_gvs, q_isI1, q_isA1, q_hs0, q_hsn, q_hsi, q_hsr, q_hss, q_inc1, List.set_cons_zero, List.set_cons_succ, ↓reduceIte, q_ss0, q_ssi, q_ssr, q_nr0, q_nr10, q_nr11, q_tlS, q_tlN, q_cl, q_let, q_lef, q_ltt, q_ltf, q_eqt, q_eqf, q_add, q_mul, Nat.reduceAdd, Nat.reduceLeDiff, Nat.reduceEqDiff, eq_self, Nat.zero_le, Nat.le_refl, not_false_eq_true, not_true_eq_false, true_and, and_true, and_self, if_true, if_false]
  exact lp197 h171 p1 g hh hQ (2 * nP) 0 none (by omega)
def thF (M : mv_Mem) (x : Int32) : Nat → mv_Mem
  | 0 => M
  | n + 1 => mv_up (thF M x n) 23 n (woF M n x (2 * (M 0 7).toNatClampNeg))
theorem thF_out {M : mv_Mem} {x : Int32} {c : Nat} (h : ¬ c = 23) : ∀ n, thF M x n c = M c
  | 0 => rfl
  | n + 1 => by unfold thF; rw [q_upO h]; exact thF_out h n
theorem thF_in {M : mv_Mem} {x : Int32} {j : Nat} : ∀ n, j < n → thF M x n 23 j = woF M j x (2 * (M 0 7).toNatClampNeg)
  | 0, h => absurd h (by omega)
  | n + 1, h => by
    unfold thF
    by_cases z : j = n
    · subst z; exact q_upS
    · rw [q_upN (fun y => z y.2)]; exact thF_in n (by omega)
/-- one row seen, led back -/
def wsM (M : mv_Mem) (x : Int32) : mv_Mem := caF (thF M x (M 0 32).toNatClampNeg) 23 22 (M 0 32).toNatClampNeg
def lwF (b : Nat) : Nat → mv_Mem → mv_Mem
  | 0, M => M
  | k + 1, M => lwF b k (wsM M (M b k))
theorem lp198a {S : Nat → mv_Sp} {sh : mv_Shp} {M : mv_Mem} {P : mv_Post} {A : Nat} {y : Option Value} (p1 : oM sh) (h32 : M 0 32 = nI A) (hA : A ≤ 4096) (hQ : ∀ x, mr198 S P 27 [some (.ref 0), x, y] [] sh (fiM M 22 (nI 1) A) 0 0) :
    ∀ n k, k + n = A → mr198 S P 6 [some (.ref 0), some (.int (nI k)), y] [] sh (fiM M 22 (nI 1) k) 0 0
  | 0, k, h => by
    obtain rfl : k = A := by omega
    have e : fiM M 22 (nI 1) k 0 32 = nI k := by rw [fiM_out (by decide)]; exact h32
    rw [e198_6]
    simp (disch := first | assumption | omega) only [e198_7, e198_8, e198_11, q_gv0, q_gvs, q_isI1, q_isA1, q_hs0, q_hsn, q_hsi, q_hsr, q_hss, q_inc1, List.set_cons_zero, List.set_cons_succ, ↓reduceIte, q_ss0, q_ssi, q_ssr, q_nr0, q_nr10, q_nr11, q_tlS, q_tlN, q_cl, q_let, q_lef, q_ltt, q_ltf, q_eqt, q_eqf, q_add, q_mul, Nat.reduceAdd, Nat.reduceLeDiff, Nat.reduceEqDiff, eq_self, Nat.zero_le, Nat.le_refl, not_false_eq_true, not_true_eq_false, true_and, and_true, and_self, if_true, if_false, p1.g32, e]
    exact hQ _
  | n + 1, k, h => by
    have ih := lp198a (S := S) p1 h32 hA hQ n (k + 1) (by omega)
    have e : fiM M 22 (nI 1) k 0 32 = nI A := by rw [fiM_out (by decide)]; exact h32
    unfold fiM at ih
    rw [e198_6]
    simp (disch := first | assumption | omega) only [e198_7, e198_8, e198_11, e198_14, e198_15, e198_18, e198_19, e198_20, e198_21, e198_24, q_gv0, q_gvs, q_isI1, q_isA1, q_hs0, q_hsn, q_hsi, q_hsr, q_hss, q_inc1, List.set_cons_zero, List.set_cons_succ, ↓reduceIte, q_ss0, q_ssi, q_ssr, q_nr0, q_nr10, q_nr11, q_tlS, q_tlN, q_cl, q_let, q_lef, q_ltt, q_ltf, q_eqt, q_eqf, q_add, q_mul, Nat.reduceAdd, Nat.reduceLeDiff, Nat.reduceEqDiff, eq_self, Nat.zero_le, Nat.le_refl, not_false_eq_true, not_true_eq_false, true_and, and_true, and_self, if_true, if_false, p1.g32, p1.g37, p1.s22, e]
    exact ih
theorem lp198b {S : Nat → mv_Sp} (h197 : S 197 = sp197) {sh : mv_Shp} {M : mv_Mem} {P : mv_Post} {A nP k : Nat} (p1 : oM sh) (g : gS M A nP) (hk : k < 6) (hQ : ∀ z, mr198 S P 71 [some (.ref 0), some (.int (nI k)), z] [] sh (thF M (M 8 k) A) 0 0) :
    ∀ n x, x + n = A → mr198 S P 40 [some (.ref 0), some (.int (nI k)), some (.int (nI x))] [] sh (thF M (M 8 k) x) 0 0
  | 0, x, h => by
    obtain rfl : x = A := by omega
    have hA := gS_A g
    have e : thF M (M 8 k) x 0 32 = nI x := by rw [thF_out (by decide)]; exact g.1
    rw [e198_40]
    simp (disch := first | assumption | omega) only [e198_41, e198_42, e198_45, q_gv0, q_gvs, q_isI1, q_isA1, q_hs0, q_hsn, q_hsi, q_hsr, q_hss, q_inc1, List.set_cons_zero, List.set_cons_succ, ↓reduceIte, q_ss0, q_ssi, q_ssr, q_nr0, q_nr10, q_nr11, q_tlS, q_tlN, q_cl, q_let, q_lef, q_ltt, q_ltf, q_eqt, q_eqf, q_add, q_mul, Nat.reduceAdd, Nat.reduceLeDiff, Nat.reduceEqDiff, eq_self, Nat.zero_le, Nat.le_refl, not_false_eq_true, not_true_eq_false, true_and, and_true, and_self, if_true, if_false, p1.g32, e]
    exact hQ _
  | n + 1, x, h => by
    have ih := lp198b (S := S) h197 p1 g hk hQ n (x + 1) (by omega)
    have hA := gS_A g
    have e : thF M (M 8 k) x 0 32 = nI A := by rw [thF_out (by decide)]; exact g.1
    have e8 : thF M (M 8 k) x 8 = M 8 := thF_out (by decide) _
    have e7 : thF M (M 8 k) x 0 7 = M 0 7 := by rw [thF_out (by decide)]
    have gg : ∃ A nP, gS (thF M (M 8 k) x) A nP ∧ x < A := ⟨A, nP, gS_of g (by rw [thF_out (by decide)]) e7 (thF_out (by decide) _), by omega⟩
    have ew : woF (thF M (M 8 k) x) x (M 8 k) (2 * (M 0 7).toNatClampNeg) = woF M x (M 8 k) (2 * (M 0 7).toNatClampNeg) := woF_of (thF_out (by decide) _) (thF_out (by decide) _) (thF_out (by decide) _) _
    have x4 : x < 4096 := by omega
    unfold thF at ih
    rw [e198_40]
    simp (disch := first | assumption | omega) only [e198_41, e198_42, e198_45, e198_48, e198_49, e198_52, e198_53, e198_54, e198_55, e198_56, e198_59, e198_60, e198_61, e198_64, e198_65, e198_68, q_gv0, q_gvs, q_isI1, q_isA1, q_hs0, q_hsn, q_hsi, q_hsr, q_hss, q_inc1, List.set_cons_zero, List.set_cons_succ, ↓reduceIte, q_ss0, q_ssi, q_ssr, q_nr0, q_nr10, q_nr11, q_tlS, q_tlN, q_cl, q_let, q_lef, q_ltt, q_ltf, q_eqt, q_eqf, q_add, q_mul, Nat.reduceAdd, Nat.reduceLeDiff, Nat.reduceEqDiff, eq_self, Nat.zero_le, Nat.le_refl, not_false_eq_true, not_true_eq_false, true_and, and_true, and_self, if_true, if_false, p1.o, p1.g32, p1.g15, p1.g38, p1.l8, p1.s23, e, e8, e7, cl197 h197, ew]
    exact ih
theorem lp198c {S : Nat → mv_Sp} {sh : mv_Shp} {M : mv_Mem} {P : mv_Post} {A k : Nat} (p1 : oM sh) (h32 : M 0 32 = nI A) (hA : A ≤ 4096) (hQ : ∀ z, mr198 S P 99 [some (.ref 0), some (.int (nI k)), z] [] sh (caF M 23 22 A) 0 0) :
    ∀ n x, x + n = A → mr198 S P 73 [some (.ref 0), some (.int (nI k)), some (.int (nI x))] [] sh (caF M 23 22 x) 0 0
  | 0, x, h => by
    obtain rfl : x = A := by omega
    have e : caF M 23 22 x 0 32 = nI x := by rw [caF_out (by decide)]; exact h32
    rw [e198_73]
    simp (disch := first | assumption | omega) only [e198_74, e198_75, e198_78, q_gv0, q_gvs, q_isI1, q_isA1, q_hs0, q_hsn, q_hsi, q_hsr, q_hss, q_inc1, List.set_cons_zero, List.set_cons_succ, ↓reduceIte, q_ss0, q_ssi, q_ssr, q_nr0, q_nr10, q_nr11, q_tlS, q_tlN, q_cl, q_let, q_lef, q_ltt, q_ltf, q_eqt, q_eqf, q_add, q_mul, Nat.reduceAdd, Nat.reduceLeDiff, Nat.reduceEqDiff, eq_self, Nat.zero_le, Nat.le_refl, not_false_eq_true, not_true_eq_false, true_and, and_true, and_self, if_true, if_false, p1.g32, e]
    exact hQ _
  | n + 1, x, h => by
    have ih := lp198c (S := S) p1 h32 hA hQ n (x + 1) (by omega)
    have e : caF M 23 22 x 0 32 = nI A := by rw [caF_out (by decide)]; exact h32
    have e23 : caF M 23 22 x 23 = M 23 := caF_out (by decide) _
    unfold caF at ih
    rw [e198_73]
    simp (disch := first | assumption | omega) only [e198_74, e198_75, e198_78, e198_81, e198_82, e198_85, e198_86, e198_87, e198_90, e198_91, e198_92, e198_93, e198_96, q_gv0, q_gvs, q_isI1, q_isA1, q_hs0, q_hsn, q_hsi, q_hsr, q_hss, q_inc1, List.set_cons_zero, List.set_cons_succ, ↓reduceIte, q_ss0, q_ssi, q_ssr, q_nr0, q_nr10, q_nr11, q_tlS, q_tlN, q_cl, q_let, q_lef, q_ltt, q_ltf, q_eqt, q_eqf, q_add, q_mul, Nat.reduceAdd, Nat.reduceLeDiff, Nat.reduceEqDiff, eq_self, Nat.zero_le, Nat.le_refl, not_false_eq_true, not_true_eq_false, true_and, and_true, and_self, if_true, if_false, p1.g32, p1.g37, p1.g38, p1.l23, p1.s22, e, e23]
    exact ih
theorem wsM_out {M : mv_Mem} {x : Int32} {c : Nat} (h : ¬ c = 22) (h2 : ¬ c = 23) : wsM M x c = M c := by
  unfold wsM
  rw [caF_out h, thF_out h2]
theorem gS_ws {M : mv_Mem} {A nP : Nat} {x : Int32} (g : gS M A nP) : gS (wsM M x) A nP := gS_of g (by rw [wsM_out (by decide) (by decide)]) (by rw [wsM_out (by decide) (by decide)]) (wsM_out (by decide) (by decide))
theorem m1k : ∀ k : Fin 7, nI (k.1 + 1) + Int32.ofInt (-1) = nI k.1 := by decide +kernel
theorem m1n : (nI 0 + Int32.ofInt (-1) < nI 0) = True := by decide
theorem lp198o {S : Nat → mv_Sp} (h197 : S 197 = sp197) {sh : mv_Shp} {P : mv_Post} {A nP : Nat} (p1 : oM sh) :
    ∀ k (M : mv_Mem) z, k ≤ 6 → gS M A nP → P none sh (lwF 8 k M) → mr198 S P 34 [some (.ref 0), some (.int (nI k + Int32.ofInt (-1))), z] [] sh M 0 0
  | 0, M, z, hk, g, hQ => by
    rw [e198_34]
    simp (disch := first | assumption | omega) only [e198_35, e198_105, q_gv0, q_gvs, q_isI1, q_isA1, q_hs0, q_hsn, q_hsi, q_hsr, q_hss, q_inc1, List.set_cons_zero, List.set_cons_succ, ↓reduceIte, q_ss0, q_ssi, q_ssr, q_nr0, q_nr10, q_nr11, q_tlS, q_tlN, q_cl, q_let, q_lef, q_ltt, q_ltf, q_eqt, q_eqf, q_add, q_mul, Nat.reduceAdd, Nat.reduceLeDiff, Nat.reduceEqDiff, eq_self, Nat.zero_le, Nat.le_refl, not_false_eq_true, not_true_eq_false, true_and, and_true, and_self, if_true, if_false, m1n]
    exact hQ
  | k + 1, M, z, hk, g, hQ => by
    have hA := gS_A g
    have e32 : (M 0 32).toNatClampNeg = A := by rw [g.1, q_cl (by omega)]
    have e1 : nI (k + 1) + Int32.ofInt (-1) = nI k := m1k ⟨k, by omega⟩
    unfold lwF at hQ
    have ew : wsM M (M 8 k) = caF (thF M (M 8 k) A) 23 22 A := by unfold wsM; rw [e32]
    rw [e198_34, e1]
    simp (disch := first | assumption | omega) only [e198_35, e198_38, e198_39, q_gv0, q_gvs, q_isI1, q_isA1, q_hs0, q_hsn, q_hsi, q_hsr, q_hss, q_inc1, List.set_cons_zero, List.set_cons_succ, ↓reduceIte, q_ss0, q_ssi, q_ssr, q_nr0, q_nr10, q_nr11, q_tlS, q_tlN, q_cl, q_let, q_lef, q_ltt, q_ltf, q_eqt, q_eqf, q_add, q_mul, Nat.reduceAdd, Nat.reduceLeDiff, Nat.reduceEqDiff, eq_self, Nat.zero_le, Nat.le_refl, not_false_eq_true, not_true_eq_false, true_and, and_true, and_self, if_true, if_false]
    refine lp198b h197 p1 g (show k < 6 by omega) (fun z => ?_) A 0 (by omega)
    simp (disch := first | assumption | omega) only [e198_71, e198_72, q_gv0, q_gvs, q_isI1, q_isA1, q_hs0, q_hsn, q_hsi, q_hsr, q_hss, q_inc1, List.set_cons_zero, List.set_cons_succ, ↓reduceIte, q_ss0, q_ssi, q_ssr, q_nr0, q_nr10, q_nr11, q_tlS, q_tlN, q_cl, q_let, q_lef, q_ltt, q_ltf, q_eqt, q_eqf, q_add, q_mul, Nat.reduceAdd, Nat.reduceLeDiff, Nat.reduceEqDiff, eq_self, Nat.zero_le, Nat.le_refl, not_false_eq_true, not_true_eq_false, true_and, and_true, and_self, if_true, if_false]
    refine lp198c p1 (by rw [thF_out (by decide)]; exact g.1) hA (fun z => ?_) A 0 (by omega)
    rw [← ew]
    simp (disch := first | assumption | omega) only [e198_99, e198_102, q_gv0, q_gvs, q_isI1, q_isA1, q_hs0, q_hsn, q_hsi, q_hsr, q_hss, q_inc1, List.set_cons_zero, List.set_cons_succ, ↓reduceIte, q_ss0, q_ssi, q_ssr, q_nr0, q_nr10, q_nr11, q_tlS, q_tlN, q_cl, q_let, q_lef, q_ltt, q_ltf, q_eqt, q_eqf, q_add, q_mul, Nat.reduceAdd, Nat.reduceLeDiff, Nat.reduceEqDiff, eq_self, Nat.zero_le, Nat.le_refl, not_false_eq_true, not_true_eq_false, true_and, and_true, and_self, if_true, if_false]
    exact lp198o h197 p1 k (wsM M (M 8 k)) _ (by omega) (gS_ws g) hQ
def lwM (M : mv_Mem) : mv_Mem := lwF 8 (M 0 14).toNatClampNeg (fiM (lhM M) 22 (nI 1) (4 ^ (M 0 3).toNatClampNeg))
theorem m1s2 : ∀ k : Fin 7, nI k.1 - nI 1 = nI k.1 + Int32.ofInt (-1) := by decide +kernel
def sp198 : mv_Sp := fun As sh M Q => As = [.ref 0] ∧ ((oM sh) ∧ (gM M) ∧ (∃ n, n ≤ 6 ∧ M 0 14 = nI n)) ∧ Q (none) (sh) (lwM M)
theorem cl198 {S : Nat → mv_Sp} (hS : S 198 = sp198) {sh : mv_Shp} {M : mv_Mem}  (p1 : oM sh) (p2 : gM M) (p3 : ∃ n, n ≤ 6 ∧ M 0 14 = nI n) {K : mv_Kt} {pc : Nat} {L : mv_Loc} {st : List Value} {cc_ ss_ : Nat} : mv_kal S 198 [.ref 0] sh M K pc L st cc_ ss_ = K pc L ((none : Option Value).toList ++ st) (sh) (lwM M) cc_ ss_ := by
  refine q_kal (fun F => q_cali (fun Q => ?_))
  rw [hS]
  constructor
  · rintro ⟨hE, ⟨zp1, zp2, zp3⟩, hQ⟩
    exact hQ
  · intro hQ
    exact ⟨rfl, ⟨p1, p2, p3⟩, hQ⟩
theorem ct198 {S : Nat → mv_Sp} (h169 : S 169 = sp169) (h197 : S 197 = sp197) : ∀ As sh M P, sp198 As sh M P → (mv_al0 As).length ≤ 3 ∧ mr198 S P 0 (mv_ent As 3) [] sh M 0 0 := by
  rintro As sh M P ⟨rfl, ⟨p1, p2, p3⟩, hQ⟩
  refine ⟨Nat.le_of_ble_eq_true rfl, ?_⟩
  show mr198 S P 0 [some (.ref 0), none, none] [] sh M 0 0
  obtain ⟨n, hn, hN⟩ := p3
  have gs := gS_lh p2
  have hA := gS_A gs
  unfold lwM at hQ
  rw [hN, q_cl (show n < 2147483648 by omega)] at hQ
  have e14 : fiM (lhM M) 22 (nI 1) (4 ^ (M 0 3).toNatClampNeg) 0 14 = nI n := by rw [fiM_out (by decide), lhM_0 (by decide)]; exact hN
  have m1 : nI n - nI 1 = nI n + Int32.ofInt (-1) := m1s2 ⟨n, by omega⟩
  simp (disch := first | assumption | omega) only [e198_0, e198_1, e198_4, e198_5, q_gv0, q_gvs, q_isI1, q_isA1, q_hs0, q_hsn, q_hsi, q_hsr, q_hss, q_inc1, List.set_cons_zero, List.set_cons_succ, ↓reduceIte, q_ss0, q_ssi, q_ssr, q_nr0, q_nr10, q_nr11, q_tlS, q_tlN, q_cl, q_let, q_lef, q_ltt, q_ltf, q_eqt, q_eqf, q_add, q_mul, Nat.reduceAdd, Nat.reduceLeDiff, Nat.reduceEqDiff, eq_self, Nat.zero_le, Nat.le_refl, not_false_eq_true, not_true_eq_false, true_and, and_true, and_self, if_true, if_false, p1.o, cl169 h169]
  refine lp198a (M := lhM M) p1 gs.1 hA (fun z => ?_) (4 ^ (M 0 3).toNatClampNeg) 0 (by omega)
  simp (disch := first | assumption | omega) only [e198_27, e198_28, e198_31, e198_32, e198_33, q_gv0, q_gvs, q_isI1, q_isA1, q_hs0, q_hsn, q_hsi, q_hsr, q_hss, q_inc1, List.set_cons_zero, List.set_cons_succ, ↓reduceIte, q_ss0, q_ssi, q_ssr, q_nr0, q_nr10, q_nr11, q_tlS, q_tlN, q_cl, q_let, q_lef, q_ltt, q_ltf, q_eqt, q_eqf, q_add, q_mul, Nat.reduceAdd, Nat.reduceLeDiff, Nat.reduceEqDiff, eq_self, Nat.zero_le, Nat.le_refl, not_false_eq_true, not_true_eq_false, true_and, and_true, and_self, if_true, if_false, p1.g14, e14, m1]
  exact lp198o h197 p1 n _ none hn (gS_of gs (by rw [fiM_out (by decide)]) (by rw [fiM_out (by decide)]) (fiM_out (by decide) _)) hQ
theorem lwF_out {b c : Nat} (h : ¬ c = 22) (h2 : ¬ c = 23) : ∀ k M, lwF b k M c = M c
  | 0, _ => rfl
  | k + 1, M => by unfold lwF; rw [lwF_out h h2 k, wsM_out h h2]
theorem lwM_out {M : mv_Mem} {c : Nat} (h0 : ¬ c = 0) (h1 : ¬ c = 15) (h2 : ¬ c = 16) (h3 : ¬ c = 17) (h4 : ¬ c = 22) (h5 : ¬ c = 23) : lwM M c = M c := by
  unfold lwM
  rw [lwF_out h4 h5, fiM_out h4, lhM_out h0 h1 h2 h3]
theorem lwM_0 {M : mv_Mem} {j : Nat} (h : ¬ j = 32) : lwM M 0 j = M 0 j := by
  unfold lwM
  rw [lwF_out (by decide) (by decide), fiM_out (by decide), lhM_0 h]
def psF (g : Nat → Int32) : Nat → Nat
  | 0 => 0
  | n + 1 => psF g n + (if nI 0 < g n then 1 else 0)
theorem psF_le (g : Nat → Int32) : ∀ n, psF g n ≤ n
  | 0 => Nat.le_refl _
  | n + 1 => by
    have := psF_le g n
    unfold psF
    split <;> omega
theorem lp199 {S : Nat → mv_Sp} {sh : mv_Shp} {M : mv_Mem} {P : mv_Post} {A : Nat} (p1 : oM sh) (h32 : M 0 32 = nI A) (hA : A ≤ 4096) (hQ : P (some (.int (nI (psF (M 22) A)))) sh M) :
    ∀ n x, x + n = A → mr199 S P 8 [some (.ref 0), some (.int (nI (psF (M 22) x))), some (.int (nI x))] [] sh M 0 0
  | 0, x, h => by
    obtain rfl : x = A := by omega
    rw [e199_8]
    simp (disch := first | assumption | omega) only [e199_0, e199_1, e199_4, e199_5, e199_6, e199_7, e199_9, e199_10, e199_13, e199_16, e199_17, e199_18, e199_21, e199_22, e199_23, e199_26, e199_27, e199_30, e199_31, e199_32, e199_33, e199_36, e199_39, e199_40, q_gv0, q_gvs, q_isI1, q_isA1, q_hs0, q_hsn, q_hsi, q_hsr, q_hss, q_inc1, List.set_cons_zero, List.set_cons_succ, ↓reduceIte, q_ss0, q_ssi, q_ssr, q_nr0, q_nr10, q_nr11, q_tlS, q_tlN, q_cl, q_let, q_lef, q_ltt, q_ltf, q_eqt, q_eqf, q_add, q_mul, Nat.reduceAdd, Nat.reduceLeDiff, Nat.reduceEqDiff, eq_self, Nat.zero_le, Nat.le_refl, not_false_eq_true, not_true_eq_false, true_and, and_true, and_self, if_true, if_false, p1.g32, h32]
    exact hQ
  | n + 1, x, h => by
    have ih := lp199 (S := S) p1 h32 hA hQ n (x + 1) (by omega)
    have e : psF (M 22) (x + 1) = psF (M 22) x + (if nI 0 < M 22 x then 1 else 0) := rfl
    rw [e] at ih
    rw [e199_8]
    by_cases c : nI 0 < M 22 x
    · rw [if_pos c] at ih
      have c2 : ¬ M 22 x ≤ nI 0 := Int32.not_le.mpr c
      simp (disch := first | assumption | omega) only [e199_0, e199_1, e199_4, e199_5, e199_6, e199_7, e199_9, e199_10, e199_13, e199_16, e199_17, e199_18, e199_21, e199_22, e199_23, e199_26, e199_27, e199_30, e199_31, e199_32, e199_33, e199_36, e199_39, e199_40, q_gv0, q_gvs, q_isI1, q_isA1, q_hs0, q_hsn, q_hsi, q_hsr, q_hss, q_inc1, List.set_cons_zero, List.set_cons_succ, ↓reduceIte, q_ss0, q_ssi, q_ssr, q_nr0, q_nr10, q_nr11, q_tlS, q_tlN, q_cl, q_let, q_lef, q_ltt, q_ltf, q_eqt, q_eqf, q_add, q_mul, Nat.reduceAdd, Nat.reduceLeDiff, Nat.reduceEqDiff, eq_self, Nat.zero_le, Nat.le_refl, not_false_eq_true, not_true_eq_false, true_and, and_true, and_self, if_true, if_false, p1.g32, p1.g37, p1.l22, h32, c2]
      exact ih
    · rw [if_neg c] at ih
      have c2 : M 22 x ≤ nI 0 := Int32.not_lt.mp c
      simp (disch := first | assumption | omega) only [e199_0, e199_1, e199_4, e199_5, e199_6, e199_7, e199_9, e199_10, e199_13, e199_16, e199_17, e199_18, e199_21, e199_22, e199_23, e199_26, e199_27, e199_30, e199_31, e199_32, e199_33, e199_36, e199_39, e199_40, q_gv0, q_gvs, q_isI1, q_isA1, q_hs0, q_hsn, q_hsi, q_hsr, q_hss, q_inc1, List.set_cons_zero, List.set_cons_succ, ↓reduceIte, q_ss0, q_ssi, q_ssr, q_nr0, q_nr10, q_nr11, q_tlS, q_tlN, q_cl, q_let, q_lef, q_ltt, q_ltf, q_eqt, q_eqf, q_add, q_mul, Nat.reduceAdd, Nat.reduceLeDiff, Nat.reduceEqDiff, eq_self, Nat.zero_le, Nat.le_refl, not_false_eq_true, not_true_eq_false, true_and, and_true, and_self, if_true, if_false, p1.g32, p1.g37, p1.l22, h32, c2]
      exact ih
theorem lwM_32 {M : mv_Mem} : lwM M 0 32 = nI (4 ^ (M 0 3).toNatClampNeg) := by
  unfold lwM
  rw [lwF_out (by decide) (by decide), fiM_out (by decide)]
  unfold lhM lhA
  rw [loF_out (by decide) (by decide), adF_out (by decide), q_upS]
def sp199 : mv_Sp := fun As sh M Q => As = [.ref 0] ∧ ((oM sh) ∧ (gM M) ∧ (∃ n, n ≤ 6 ∧ M 0 14 = nI n)) ∧ Q (some (.int (nI (psF (lwM M 22) (4 ^ (M 0 3).toNatClampNeg))))) (sh) (lwM M)
theorem cl199 {S : Nat → mv_Sp} (hS : S 199 = sp199) {sh : mv_Shp} {M : mv_Mem}  (p1 : oM sh) (p2 : gM M) (p3 : ∃ n, n ≤ 6 ∧ M 0 14 = nI n) {K : mv_Kt} {pc : Nat} {L : mv_Loc} {st : List Value} {cc_ ss_ : Nat} : mv_kal S 199 [.ref 0] sh M K pc L st cc_ ss_ = K pc L ((some (.int (nI (psF (lwM M 22) (4 ^ (M 0 3).toNatClampNeg)))) : Option Value).toList ++ st) (sh) (lwM M) cc_ ss_ := by
  refine q_kal (fun F => q_cali (fun Q => ?_))
  rw [hS]
  constructor
  · rintro ⟨hE, ⟨zp1, zp2, zp3⟩, hQ⟩
    exact hQ
  · intro hQ
    exact ⟨rfl, ⟨p1, p2, p3⟩, hQ⟩
theorem ct199 {S : Nat → mv_Sp} (h198 : S 198 = sp198) : ∀ As sh M P, sp199 As sh M P → (mv_al0 As).length ≤ 3 ∧ mr199 S P 0 (mv_ent As 3) [] sh M 0 0 := by
  rintro As sh M P ⟨rfl, ⟨p1, p2, p3⟩, hQ⟩
  refine ⟨Nat.le_of_ble_eq_true rfl, ?_⟩
  show mr199 S P 0 [some (.ref 0), none, none] [] sh M 0 0
  have hA := gS_A (gS_lh p2)
  simp (disch := first | assumption | omega) only [e199_0, e199_1, e199_4, e199_5, e199_6, e199_7, q_gv0, q_gvs, q_isI1, q_isA1, q_hs0, q_hsn, q_hsi, q_hsr, q_hss, q_inc1, List.set_cons_zero, List.set_cons_succ, ↓reduceIte, q_ss0, q_ssi, q_ssr, q_nr0, q_nr10, q_nr11, q_tlS, q_tlN, q_cl, q_let, q_lef, q_ltt, q_ltf, q_eqt, q_eqf, q_add, q_mul, Nat.reduceAdd, Nat.reduceLeDiff, Nat.reduceEqDiff, eq_self, Nat.zero_le, Nat.le_refl, not_false_eq_true, not_true_eq_false, true_and, and_true, and_self, if_true, if_false, p1.o, cl198 h198]
  exact lp199 p1 lwM_32 hA hQ _ 0 (Nat.zero_add _)
def sp212 : mv_Sp := fun As sh M Q => As = [.ref 0] ∧ ((oM sh) ∧ (gM M) ∧ (cY M 0) ∧ (∃ n, n ≤ 6 ∧ M 0 14 = nI n)) ∧ Q (some (.int (lwM M 22 (hnY M).toNatClampNeg))) (sh) (lwM M)
theorem cl212 {S : Nat → mv_Sp} (hS : S 212 = sp212) {sh : mv_Shp} {M : mv_Mem}  (p1 : oM sh) (p2 : gM M) (p3 : cY M 0) (p4 : ∃ n, n ≤ 6 ∧ M 0 14 = nI n) {K : mv_Kt} {pc : Nat} {L : mv_Loc} {st : List Value} {cc_ ss_ : Nat} : mv_kal S 212 [.ref 0] sh M K pc L st cc_ ss_ = K pc L ((some (.int (lwM M 22 (hnY M).toNatClampNeg)) : Option Value).toList ++ st) (sh) (lwM M) cc_ ss_ := by
  refine q_kal (fun F => q_cali (fun Q => ?_))
  rw [hS]
  constructor
  · rintro ⟨hE, ⟨zp1, zp2, zp3, zp4⟩, hQ⟩
    exact hQ
  · intro hQ
    exact ⟨rfl, ⟨p1, p2, p3, p4⟩, hQ⟩
theorem ct212 {S : Nat → mv_Sp} (h170 : S 170 = sp170) (h198 : S 198 = sp198) : ∀ As sh M P, sp212 As sh M P → (mv_al0 As).length ≤ 1 ∧ mr212 S P 0 (mv_ent As 1) [] sh M 0 0 := by
  rintro As sh M P ⟨rfl, ⟨p1, p2, p3, p4⟩, hQ⟩
  refine ⟨Nat.le_of_ble_eq_true rfl, ?_⟩
  show mr212 S P 0 [some (.ref 0)] [] sh M 0 0
  obtain ⟨k, hk, hK⟩ := hnY_lt p2 p3
  have hA := gS_A (gS_lh p2)
  have hn : ∃ n, n ≤ 6 ∧ lwM M 0 3 = nI n := by rw [lwM_0 (by decide)]; exact p2.1
  have hh : hnY (lwM M) = nI k := (hnY_of (lwM_0 (by decide)) (lwM_out (by decide) (by decide) (by decide) (by decide) (by decide) (by decide))).trans hK
  have k4 : k < 4096 := by omega
  rw [hK, q_cl (show k < 2147483648 by omega)] at hQ
  simp (disch := first | assumption | omega) only [e212_0, e212_1, e212_4, e212_5, e212_8, e212_9, e212_12, e212_13, q_gv0, q_gvs, q_isI1, q_isA1, q_hs0, q_hsn, q_hsi, q_hsr, q_hss, q_inc1, List.set_cons_zero, List.set_cons_succ, ↓reduceIte, q_ss0, q_ssi, q_ssr, q_nr0, q_nr10, q_nr11, q_tlS, q_tlN, q_cl, q_let, q_lef, q_ltt, q_ltf, q_eqt, q_eqf, q_add, q_mul, Nat.reduceAdd, Nat.reduceLeDiff, Nat.reduceEqDiff, eq_self, Nat.zero_le, Nat.le_refl, not_false_eq_true, not_true_eq_false, true_and, and_true, and_self, if_true, if_false, p1.o, p1.g37, p1.l22, cl198 h198, cl170 h170, hh]
  exact hQ
