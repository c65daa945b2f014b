/-! items read: the reader's place is kept outermost -/
theorem q_pl {M : mv_Mem} {b j : Nat} {x y : Int32} (h : b ≠ 10) : mv_up (mv_up M 10 2 x) b j y = mv_up (mv_up M b j y) 10 2 x := by
  funext c k
  unfold mv_up
  by_cases h1 : c = b
  · subst h1
    simp [h]
  · simp [h1, h.symm]
theorem nxF_lt {M : mv_Mem} (h : tX M) {p : Nat} (hp : p < 201) : nxF (lx M) p < 201 := by
  unfold nxF
  split
  · exact hp
  · rename_i z
    have := lx_end h z
    omega
theorem fgP_lt {M : mv_Mem} (h : tX M) {p : Nat} (hp : p < 201) : fgP (lx M) p < 201 := by
  unfold fgP
  split
  · exact hp
  · rename_i z
    have := fgF_end h z
    omega
theorem nbP_lt {M : mv_Mem} (h : tX M) {p : Nat} (hp : p < 201) : nbP (lx M) p < 201 := by
  unfold nbP
  split
  · exact hp
  · rename_i z
    have := fgF_end h z
    split <;> omega
theorem nxF1 {T : Nat → Nat} {p k : Nat} (h : T p = k) (h0 : k ≠ 0) : nxF T p = p + 1 := if_neg (by rw [h]; exact h0)
/-- a twist told: whether it is so (1) or not (0), the place behind -/
def lmB (T : Nat → Nat) (p : Nat) : Nat := if nbF T p < 2 then 0 else if 41 < nbF T p then 0 else if T (nbP T p) = 59 then 1 else 0
def lmP (T : Nat → Nat) (p : Nat) : Nat := if nbF T p < 2 then nbP T p else if 41 < nbF T p then nbP T p else nxF T (nbP T p)
def sp35 : mv_Sp := fun As sh M Q => As = [.ref 10] ∧ ((oX sh) ∧ (tX M) ∧ (∃ p, p < 201 ∧ M 10 2 = nI p)) ∧ Q (some (.int (nI (lmB (lx M) (M 10 2).toNatClampNeg)))) (sh) (if lmB (lx M) (M 10 2).toNatClampNeg = 1 then mv_up (mv_up M 11 3 (nI (nbF (lx M) (M 10 2).toNatClampNeg - 1))) 10 2 (nI (lmP (lx M) (M 10 2).toNatClampNeg)) else mv_up M 10 2 (nI (lmP (lx M) (M 10 2).toNatClampNeg)))
theorem cl35 {S : Nat → mv_Sp} (hS : S 35 = sp35) {sh : mv_Shp} {M : mv_Mem}  (p1 : oX sh) (p2 : tX M) (p3 : ∃ p, p < 201 ∧ M 10 2 = nI p) {K : mv_Kt} {pc : Nat} {L : mv_Loc} {st : List Value} {cc_ ss_ : Nat} : mv_kal S 35 [.ref 10] sh M K pc L st cc_ ss_ = K pc L ((some (.int (nI (lmB (lx M) (M 10 2).toNatClampNeg))) : Option Value).toList ++ st) (sh) (if lmB (lx M) (M 10 2).toNatClampNeg = 1 then mv_up (mv_up M 11 3 (nI (nbF (lx M) (M 10 2).toNatClampNeg - 1))) 10 2 (nI (lmP (lx M) (M 10 2).toNatClampNeg)) else mv_up M 10 2 (nI (lmP (lx M) (M 10 2).toNatClampNeg))) cc_ ss_ := by
  refine q_kal (fun F => q_cali (fun Q => ?_))
  rw [hS]
  constructor
  · rintro ⟨hE, ⟨zp1, zp2, zp3⟩, hQ⟩
    exact hQ
  · intro hQ
    exact ⟨rfl, ⟨p1, p2, p3⟩, hQ⟩
theorem ct35 {S : Nat → mv_Sp} (h26 : S 26 = sp26) (h28 : S 28 = sp28) : ∀ As sh M P, sp35 As sh M P → (mv_al0 As).length ≤ 2 ∧ mr35 S P 0 (mv_ent As 2) [] sh M 0 0 := by
  rintro As sh M P ⟨rfl, ⟨p1, p2, p3⟩, hQ⟩
  refine ⟨Nat.le_of_ble_eq_true rfl, ?_⟩
  show mr35 S P 0 [some (.ref 10), none] [] sh M 0 0
  obtain ⟨p, hp, hP⟩ := id p3
  rw [hP, q_cl (show p < 2147483648 by omega)] at hQ
  have b1 := nbP_lt p2 hp
  have b2 := nbF_le (lx M) p
  have l1 := lx_lt p2 (nbP (lx M) p)
  have ht := p1.told
  by_cases h1 : nbF (lx M) p < 2
  · have e1 : lmB (lx M) p = 0 := by unfold lmB; rw [if_pos h1]
    have e2 : lmP (lx M) p = nbP (lx M) p := by unfold lmP; rw [if_pos h1]
    rw [e1, e2, if_neg (by decide)] at hQ
    by_cases h0 : nbF (lx M) p = 0
    · simp (disch := first | assumption | omega | exact tX_up p2 (by decide) (by decide) | exact pl_ex (by omega)) only [e35_0, e35_1, e35_4, e35_5, e35_6, e35_7, e35_10, e35_11, e35_13, e35_16, e35_17, e35_20, e35_22, e35_25, e35_26, e35_27, e35_28, e35_31, e35_32, e35_35, e35_36, q_gv0, q_gvs, q_isI1, q_isA1, q_hs0, q_hsn, q_hsi, q_hsr, q_hss, q_inc1, List.set_cons_zero, List.set_cons_succ, ↓reduceIte, q_ss0, q_ssi, q_ssr, q_nr0, q_nr10, q_nr11, q_tlS, q_tlN, q_cl, q_let, q_lef, q_ltt, q_ltf, q_eqt, q_eqf, q_add, q_mul, Nat.reduceAdd, Nat.reduceLeDiff, Nat.reduceEqDiff, eq_self, Nat.zero_le, Nat.le_refl, not_false_eq_true, not_true_eq_false, true_and, and_true, and_self, if_true, if_false, p1.o10, cl28 h28, hP, h0, q_m1lt1]
      exact hQ
    · simp (disch := first | assumption | omega | exact tX_up p2 (by decide) (by decide) | exact pl_ex (by omega)) only [e35_0, e35_1, e35_4, e35_5, e35_6, e35_7, e35_10, e35_11, e35_13, e35_16, e35_17, e35_20, e35_22, e35_25, e35_26, e35_27, e35_28, e35_31, e35_32, e35_35, e35_36, q_gv0, q_gvs, q_isI1, q_isA1, q_hs0, q_hsn, q_hsi, q_hsr, q_hss, q_inc1, List.set_cons_zero, List.set_cons_succ, ↓reduceIte, q_ss0, q_ssi, q_ssr, q_nr0, q_nr10, q_nr11, q_tlS, q_tlN, q_cl, q_let, q_lef, q_ltt, q_ltf, q_eqt, q_eqf, q_add, q_mul, Nat.reduceAdd, Nat.reduceLeDiff, Nat.reduceEqDiff, eq_self, Nat.zero_le, Nat.le_refl, not_false_eq_true, not_true_eq_false, true_and, and_true, and_self, if_true, if_false, p1.o10, cl28 h28, hP, h0]
      exact hQ
  · have h0 : ¬ nbF (lx M) p = 0 := by omega
    by_cases h2 : 41 < nbF (lx M) p
    · have e1 : lmB (lx M) p = 0 := by unfold lmB; rw [if_neg h1, if_pos h2]
      have e2 : lmP (lx M) p = nbP (lx M) p := by unfold lmP; rw [if_neg h1, if_pos h2]
      rw [e1, e2, if_neg (by decide)] at hQ
      simp (disch := first | assumption | omega | exact tX_up p2 (by decide) (by decide) | exact pl_ex (by omega)) only [e35_0, e35_1, e35_4, e35_5, e35_6, e35_7, e35_10, e35_11, e35_13, e35_16, e35_17, e35_20, e35_22, e35_25, e35_26, e35_27, e35_28, e35_31, e35_32, e35_35, e35_36, q_gv0, q_gvs, q_isI1, q_isA1, q_hs0, q_hsn, q_hsi, q_hsr, q_hss, q_inc1, List.set_cons_zero, List.set_cons_succ, ↓reduceIte, q_ss0, q_ssi, q_ssr, q_nr0, q_nr10, q_nr11, q_tlS, q_tlN, q_cl, q_let, q_lef, q_ltt, q_ltf, q_eqt, q_eqf, q_add, q_mul, Nat.reduceAdd, Nat.reduceLeDiff, Nat.reduceEqDiff, eq_self, Nat.zero_le, Nat.le_refl, not_false_eq_true, not_true_eq_false, true_and, and_true, and_self, if_true, if_false, p1.o10, cl28 h28, hP, h0]
      exact hQ
    · have e2 : lmP (lx M) p = nxF (lx M) (nbP (lx M) p) := by unfold lmP; rw [if_neg h1, if_neg h2]
      by_cases h3 : lx M (nbP (lx M) p) = 59
      · have e1 : lmB (lx M) p = 1 := by unfold lmB; rw [if_neg h1, if_neg h2, if_pos h3]
        rw [e1, e2, if_pos rfl] at hQ
        simp (disch := first | assumption | omega | exact tX_up p2 (by decide) (by decide) | exact pl_ex (by omega)) only [e35_0, e35_1, e35_4, e35_5, e35_6, e35_7, e35_10, e35_11, e35_13, e35_16, e35_17, e35_20, e35_22, e35_25, e35_26, e35_27, e35_28, e35_31, e35_32, e35_35, e35_36, q_gv0, q_gvs, q_isI1, q_isA1, q_hs0, q_hsn, q_hsi, q_hsr, q_hss, q_inc1, List.set_cons_zero, List.set_cons_succ, ↓reduceIte, q_ss0, q_ssi, q_ssr, q_nr0, q_nr10, q_nr11, q_tlS, q_tlN, q_cl, q_let, q_lef, q_ltt, q_ltf, q_eqt, q_eqf, q_add, q_mul, Nat.reduceAdd, Nat.reduceLeDiff, Nat.reduceEqDiff, eq_self, Nat.zero_le, Nat.le_refl, not_false_eq_true, not_true_eq_false, true_and, and_true, and_self, if_true, if_false, p1.o10, p1.r1, ht.p3, cl28 h28, cl26 h26, hP, h0, h3, q_upS, q_upup, lx_up, q_pl]
        exact hQ
      · have e1 : lmB (lx M) p = 0 := by unfold lmB; rw [if_neg h1, if_neg h2, if_neg h3]
        rw [e1, e2, if_neg (by decide)] at hQ
        simp (disch := first | assumption | omega | exact tX_up p2 (by decide) (by decide) | exact pl_ex (by omega)) only [e35_0, e35_1, e35_4, e35_5, e35_6, e35_7, e35_10, e35_11, e35_13, e35_16, e35_17, e35_20, e35_22, e35_25, e35_26, e35_27, e35_28, e35_31, e35_32, e35_35, e35_36, q_gv0, q_gvs, q_isI1, q_isA1, q_hs0, q_hsn, q_hsi, q_hsr, q_hss, q_inc1, List.set_cons_zero, List.set_cons_succ, ↓reduceIte, q_ss0, q_ssi, q_ssr, q_nr0, q_nr10, q_nr11, q_tlS, q_tlN, q_cl, q_let, q_lef, q_ltt, q_ltf, q_eqt, q_eqf, q_add, q_mul, Nat.reduceAdd, Nat.reduceLeDiff, Nat.reduceEqDiff, eq_self, Nat.zero_le, Nat.le_refl, not_false_eq_true, not_true_eq_false, true_and, and_true, and_self, if_true, if_false, p1.o10, p1.r1, ht.p3, cl28 h28, cl26 h26, hP, h0, h3, q_upS, q_upup, lx_up, q_pl]
        exact hQ
theorem up_ex {M : mv_Mem} {a j b i N : Nat} {x : Int32} (h : b ≠ a) (hn : ∃ n, n < N ∧ M b i = nI n) : ∃ n, n < N ∧ mv_up M a j x b i = nI n := by
  rw [q_upO h]; exact hn
theorem up_ex10 {M : mv_Mem} {j i N : Nat} {x : Int32} (hn : ∃ n, n < N ∧ M 11 i = nI n) : ∃ n, n < N ∧ mv_up M 10 j x 11 i = nI n := up_ex (by decide) hn
theorem atM_pl {M : mv_Mem} {n : Nat} {x kd s : Int32} {R : Nat} : atM (mv_up M 10 2 x) 11 n kd s R = mv_up (atM M 11 n kd s R) 10 2 x := by
  unfold atM thM
  simp (disch := omega) only [q_pl, q_upO]
/-- a tablet told -/
def tbU (T : Nat → Nat) (p : Nat) : Nat := nbP T (nbP T p + 1) + 1
def tbB (T : Nat → Nat) (p : Nat) : Nat := if nbF T p = 0 then 0 else if 4 < nbF T p then 0 else if ¬ T (nbP T p) = 44 then 0
  else if nbF T (nbP T p + 1) = 0 then 0 else if 2 < nbF T (nbP T p + 1) then 0 else if ¬ T (nbP T (nbP T p + 1)) = 44 then 0
  else if fgF T (tbU T p) = 0 then 0 else if fgF T (tbU T p + 1) = 0 then 0 else if fgF T (tbU T p + 1 + 1) = 0 then 0 else if fgF T (tbU T p + 1 + 1 + 1) = 0 then 0 else if T (tbU T p + 1 + 1 + 1 + 1) = 59 then 1 else 0
def tbP (T : Nat → Nat) (p : Nat) : Nat := if nbF T p = 0 then nbP T p else if 4 < nbF T p then nbP T p else if ¬ T (nbP T p) = 44 then nxF T (nbP T p)
  else if nbF T (nbP T p + 1) = 0 then nbP T (nbP T p + 1) else if 2 < nbF T (nbP T p + 1) then nbP T (nbP T p + 1) else if ¬ T (nbP T (nbP T p + 1)) = 44 then nxF T (nbP T (nbP T p + 1))
  else if fgF T (tbU T p) = 0 then tbU T p else if fgF T (tbU T p + 1) = 0 then tbU T p + 1 else if fgF T (tbU T p + 1 + 1) = 0 then tbU T p + 1 + 1 else if fgF T (tbU T p + 1 + 1 + 1) = 0 then tbU T p + 1 + 1 + 1 else nxF T (tbU T p + 1 + 1 + 1 + 1)
def tbR (T : Nat → Nat) (p : Nat) : Nat := (((0 * 10 + (fgF T (tbU T p) - 1)) * 10 + (fgF T (tbU T p + 1) - 1)) * 10 + (fgF T (tbU T p + 1 + 1) - 1)) * 10 + (fgF T (tbU T p + 1 + 1 + 1) - 1)
def sp32 : mv_Sp := fun As sh M Q => As = [.ref 10] ∧ ((oX sh) ∧ (tX M) ∧ (∃ p, p < 201 ∧ M 10 2 = nI p) ∧ (∃ n, n < 7 ∧ M 11 0 = nI n)) ∧ Q (some (.int (nI (if tbB (lx M) (M 10 2).toNatClampNeg = 1 ∧ ¬ (M 11 0).toNatClampNeg = 6 then 1 else 0)))) (sh) (if tbB (lx M) (M 10 2).toNatClampNeg = 1 ∧ ¬ (M 11 0).toNatClampNeg = 6 then mv_up (atM M 11 (M 11 0).toNatClampNeg (nI (nbF (lx M) (M 10 2).toNatClampNeg - 1)) (nI (nbF (lx M) (nbP (lx M) (M 10 2).toNatClampNeg + 1) - 1)) (tbR (lx M) (M 10 2).toNatClampNeg)) 10 2 (nI (tbP (lx M) (M 10 2).toNatClampNeg)) else mv_up M 10 2 (nI (tbP (lx M) (M 10 2).toNatClampNeg)))
theorem cl32 {S : Nat → mv_Sp} (hS : S 32 = sp32) {sh : mv_Shp} {M : mv_Mem}  (p1 : oX sh) (p2 : tX M) (p3 : ∃ p, p < 201 ∧ M 10 2 = nI p) (p4 : ∃ n, n < 7 ∧ M 11 0 = nI n) {K : mv_Kt} {pc : Nat} {L : mv_Loc} {st : List Value} {cc_ ss_ : Nat} : mv_kal S 32 [.ref 10] sh M K pc L st cc_ ss_ = K pc L ((some (.int (nI (if tbB (lx M) (M 10 2).toNatClampNeg = 1 ∧ ¬ (M 11 0).toNatClampNeg = 6 then 1 else 0))) : Option Value).toList ++ st) (sh) (if tbB (lx M) (M 10 2).toNatClampNeg = 1 ∧ ¬ (M 11 0).toNatClampNeg = 6 then mv_up (atM M 11 (M 11 0).toNatClampNeg (nI (nbF (lx M) (M 10 2).toNatClampNeg - 1)) (nI (nbF (lx M) (nbP (lx M) (M 10 2).toNatClampNeg + 1) - 1)) (tbR (lx M) (M 10 2).toNatClampNeg)) 10 2 (nI (tbP (lx M) (M 10 2).toNatClampNeg)) else mv_up M 10 2 (nI (tbP (lx M) (M 10 2).toNatClampNeg))) cc_ ss_ := by
  refine q_kal (fun F => q_cali (fun Q => ?_))
  rw [hS]
  constructor
  · rintro ⟨hE, ⟨zp1, zp2, zp3, zp4⟩, hQ⟩
    exact hQ
  · intro hQ
    exact ⟨rfl, ⟨p1, p2, p3, p4⟩, hQ⟩
theorem ct32 {S : Nat → mv_Sp} (h26 : S 26 = sp26) (h27 : S 27 = sp27) (h28 : S 28 = sp28) (h31 : S 31 = sp31) : ∀ As sh M P, sp32 As sh M P → (mv_al0 As).length ≤ 6 ∧ mr32 S P 0 (mv_ent As 6) [] sh M 0 0 := by
  rintro As sh M P ⟨rfl, ⟨p1, p2, p3, p4⟩, hQ⟩
  refine ⟨Nat.le_of_ble_eq_true rfl, ?_⟩
  show mr32 S P 0 [some (.ref 10), none, none, none, none, none] [] sh M 0 0
  obtain ⟨p, hp, hP⟩ := id p3
  obtain ⟨nT, hnT, hT⟩ := id p4
  rw [hP, hT, q_cl (show p < 2147483648 by omega), q_cl (show nT < 2147483648 by omega)] at hQ
  have b1 := nbP_lt p2 hp
  have b2 := nbF_le (lx M) p
  have l1 := lx_lt p2 (nbP (lx M) p)
  have ht := p1.told
  by_cases h1 : nbF (lx M) p = 0
  · have e1 : tbB (lx M) p = 0 := by simp only [tbB, tbU, h1, if_true, if_false, not_true_eq_false, not_false_eq_true]
    have e2 : tbP (lx M) p = nbP (lx M) p := by simp only [tbP, tbU, h1, if_true, if_false, not_true_eq_false, not_false_eq_true]
    rw [e1, e2, if_neg (by simp), if_neg (by simp)] at hQ
    simp (disch := first | assumption | omega | exact tX_up p2 (by decide) (by decide) | exact pl_ex (by omega)) only [e32_0, e32_1, e32_4, e32_5, e32_6, e32_9, e32_10, e32_11, e32_14, e32_15, e32_18, e32_20, e32_23, e32_24, e32_25, e32_26, e32_29, e32_30, e32_31, e32_34, e32_35, e32_36, e32_39, e32_40, e32_43, e32_45, e32_48, e32_49, e32_50, e32_51, e32_52, e32_53, e32_55, e32_57, e32_58, e32_61, e32_62, e32_65, e32_67, e32_69, e32_72, e32_73, e32_74, e32_75, e32_77, e32_78, e32_80, e32_81, e32_82, e32_85, e32_88, e32_89, e32_92, e32_94, e32_97, e32_98, e32_101, e32_102, e32_103, e32_104, e32_107, e32_110, e32_111, e32_114, e32_115, q_gv0, q_gvs, q_isI1, q_isA1, q_hs0, q_hsn, q_hsi, q_hsr, q_hss, q_inc1, List.set_cons_zero, List.set_cons_succ, ↓reduceIte, q_ss0, q_ssi, q_ssr, q_nr0, q_nr10, q_nr11, q_tlS, q_tlN, q_cl, q_let, q_lef, q_ltt, q_ltf, q_eqt, q_eqf, q_add, q_mul, Nat.reduceAdd, Nat.reduceLeDiff, Nat.reduceEqDiff, eq_self, Nat.zero_le, Nat.le_refl, not_false_eq_true, not_true_eq_false, true_and, and_true, and_self, if_true, if_false, p1.o10, p1.r1, ht.o, cl28 h28, cl27 h27, cl26 h26, hP, q_m1lt, q_m1, q_upS, q_upup, lx_up, q_pl, fgP0, fgP1, tbU, h1]
    exact hQ
  by_cases h2 : 4 < nbF (lx M) p
  · have e1 : tbB (lx M) p = 0 := by simp only [tbB, tbU, h1, h2, if_true, if_false, not_true_eq_false, not_false_eq_true]
    have e2 : tbP (lx M) p = nbP (lx M) p := by simp only [tbP, tbU, h1, h2, if_true, if_false, not_true_eq_false, not_false_eq_true]
    rw [e1, e2, if_neg (by simp), if_neg (by simp)] at hQ
    simp (disch := first | assumption | omega | exact tX_up p2 (by decide) (by decide) | exact pl_ex (by omega)) only [e32_0, e32_1, e32_4, e32_5, e32_6, e32_9, e32_10, e32_11, e32_14, e32_15, e32_18, e32_20, e32_23, e32_24, e32_25, e32_26, e32_29, e32_30, e32_31, e32_34, e32_35, e32_36, e32_39, e32_40, e32_43, e32_45, e32_48, e32_49, e32_50, e32_51, e32_52, e32_53, e32_55, e32_57, e32_58, e32_61, e32_62, e32_65, e32_67, e32_69, e32_72, e32_73, e32_74, e32_75, e32_77, e32_78, e32_80, e32_81, e32_82, e32_85, e32_88, e32_89, e32_92, e32_94, e32_97, e32_98, e32_101, e32_102, e32_103, e32_104, e32_107, e32_110, e32_111, e32_114, e32_115, q_gv0, q_gvs, q_isI1, q_isA1, q_hs0, q_hsn, q_hsi, q_hsr, q_hss, q_inc1, List.set_cons_zero, List.set_cons_succ, ↓reduceIte, q_ss0, q_ssi, q_ssr, q_nr0, q_nr10, q_nr11, q_tlS, q_tlN, q_cl, q_let, q_lef, q_ltt, q_ltf, q_eqt, q_eqf, q_add, q_mul, Nat.reduceAdd, Nat.reduceLeDiff, Nat.reduceEqDiff, eq_self, Nat.zero_le, Nat.le_refl, not_false_eq_true, not_true_eq_false, true_and, and_true, and_self, if_true, if_false, p1.o10, p1.r1, ht.o, cl28 h28, cl27 h27, cl26 h26, hP, q_m1lt, q_m1, q_upS, q_upup, lx_up, q_pl, fgP0, fgP1, tbU, h1, h2]
    exact hQ
  by_cases h3 : ¬ lx M (nbP (lx M) p) = 44
  · have e1 : tbB (lx M) p = 0 := by simp only [tbB, tbU, h1, h2, h3, if_true, if_false, not_true_eq_false, not_false_eq_true]
    have e2 : tbP (lx M) p = nxF (lx M) (nbP (lx M) p) := by simp only [tbP, tbU, h1, h2, h3, if_true, if_false, not_true_eq_false, not_false_eq_true]
    rw [e1, e2, if_neg (by simp), if_neg (by simp)] at hQ
    simp (disch := first | assumption | omega | exact tX_up p2 (by decide) (by decide) | exact pl_ex (by omega)) only [e32_0, e32_1, e32_4, e32_5, e32_6, e32_9, e32_10, e32_11, e32_14, e32_15, e32_18, e32_20, e32_23, e32_24, e32_25, e32_26, e32_29, e32_30, e32_31, e32_34, e32_35, e32_36, e32_39, e32_40, e32_43, e32_45, e32_48, e32_49, e32_50, e32_51, e32_52, e32_53, e32_55, e32_57, e32_58, e32_61, e32_62, e32_65, e32_67, e32_69, e32_72, e32_73, e32_74, e32_75, e32_77, e32_78, e32_80, e32_81, e32_82, e32_85, e32_88, e32_89, e32_92, e32_94, e32_97, e32_98, e32_101, e32_102, e32_103, e32_104, e32_107, e32_110, e32_111, e32_114, e32_115, q_gv0, q_gvs, q_isI1, q_isA1, q_hs0, q_hsn, q_hsi, q_hsr, q_hss, q_inc1, List.set_cons_zero, List.set_cons_succ, ↓reduceIte, q_ss0, q_ssi, q_ssr, q_nr0, q_nr10, q_nr11, q_tlS, q_tlN, q_cl, q_let, q_lef, q_ltt, q_ltf, q_eqt, q_eqf, q_add, q_mul, Nat.reduceAdd, Nat.reduceLeDiff, Nat.reduceEqDiff, eq_self, Nat.zero_le, Nat.le_refl, not_false_eq_true, not_true_eq_false, true_and, and_true, and_self, if_true, if_false, p1.o10, p1.r1, ht.o, cl28 h28, cl27 h27, cl26 h26, hP, q_m1lt, q_m1, q_upS, q_upup, lx_up, q_pl, fgP0, fgP1, tbU, h1, h2, h3]
    exact hQ
  replace h3 : lx M (nbP (lx M) p) = 44 := by
    by_cases z : lx M (nbP (lx M) p) = 44
    · exact z
    · exact absurd z h3
  have a3 : nbP (lx M) p < 96 := lx_end p2 (by rw [h3]; decide)
  have b3 : nxF (lx M) (nbP (lx M) p) = nbP (lx M) p + 1 := nxF1 h3 (by decide)
  have b4 := nbP_lt p2 (show nbP (lx M) p + 1 < 201 by omega)
  have b5 := nbF_le (lx M) (nbP (lx M) p + 1)
  have l2 := lx_lt p2 (nbP (lx M) (nbP (lx M) p + 1))
  by_cases h4 : nbF (lx M) (nbP (lx M) p + 1) = 0
  · have e1 : tbB (lx M) p = 0 := by simp only [tbB, tbU, h1, h2, h3, h4, if_true, if_false, not_true_eq_false, not_false_eq_true]
    have e2 : tbP (lx M) p = nbP (lx M) (nbP (lx M) p + 1) := by simp only [tbP, tbU, h1, h2, h3, h4, if_true, if_false, not_true_eq_false, not_false_eq_true]
    rw [e1, e2, if_neg (by simp), if_neg (by simp)] at hQ
    simp (disch := first | assumption | omega | exact tX_up p2 (by decide) (by decide) | exact pl_ex (by omega)) only [e32_0, e32_1, e32_4, e32_5, e32_6, e32_9, e32_10, e32_11, e32_14, e32_15, e32_18, e32_20, e32_23, e32_24, e32_25, e32_26, e32_29, e32_30, e32_31, e32_34, e32_35, e32_36, e32_39, e32_40, e32_43, e32_45, e32_48, e32_49, e32_50, e32_51, e32_52, e32_53, e32_55, e32_57, e32_58, e32_61, e32_62, e32_65, e32_67, e32_69, e32_72, e32_73, e32_74, e32_75, e32_77, e32_78, e32_80, e32_81, e32_82, e32_85, e32_88, e32_89, e32_92, e32_94, e32_97, e32_98, e32_101, e32_102, e32_103, e32_104, e32_107, e32_110, e32_111, e32_114, e32_115, q_gv0, q_gvs, q_isI1, q_isA1, q_hs0, q_hsn, q_hsi, q_hsr, q_hss, q_inc1, List.set_cons_zero, List.set_cons_succ, ↓reduceIte, q_ss0, q_ssi, q_ssr, q_nr0, q_nr10, q_nr11, q_tlS, q_tlN, q_cl, q_let, q_lef, q_ltt, q_ltf, q_eqt, q_eqf, q_add, q_mul, Nat.reduceAdd, Nat.reduceLeDiff, Nat.reduceEqDiff, eq_self, Nat.zero_le, Nat.le_refl, not_false_eq_true, not_true_eq_false, true_and, and_true, and_self, if_true, if_false, p1.o10, p1.r1, ht.o, cl28 h28, cl27 h27, cl26 h26, hP, q_m1lt, q_m1, q_upS, q_upup, lx_up, q_pl, fgP0, fgP1, tbU, h1, h2, h3, h4, b3]
    exact hQ
  by_cases h5 : 2 < nbF (lx M) (nbP (lx M) p + 1)
  · have e1 : tbB (lx M) p = 0 := by simp only [tbB, tbU, h1, h2, h3, h4, h5, if_true, if_false, not_true_eq_false, not_false_eq_true]
    have e2 : tbP (lx M) p = nbP (lx M) (nbP (lx M) p + 1) := by simp only [tbP, tbU, h1, h2, h3, h4, h5, if_true, if_false, not_true_eq_false, not_false_eq_true]
    rw [e1, e2, if_neg (by simp), if_neg (by simp)] at hQ
    simp (disch := first | assumption | omega | exact tX_up p2 (by decide) (by decide) | exact pl_ex (by omega)) only [e32_0, e32_1, e32_4, e32_5, e32_6, e32_9, e32_10, e32_11, e32_14, e32_15, e32_18, e32_20, e32_23, e32_24, e32_25, e32_26, e32_29, e32_30, e32_31, e32_34, e32_35, e32_36, e32_39, e32_40, e32_43, e32_45, e32_48, e32_49, e32_50, e32_51, e32_52, e32_53, e32_55, e32_57, e32_58, e32_61, e32_62, e32_65, e32_67, e32_69, e32_72, e32_73, e32_74, e32_75, e32_77, e32_78, e32_80, e32_81, e32_82, e32_85, e32_88, e32_89, e32_92, e32_94, e32_97, e32_98, e32_101, e32_102, e32_103, e32_104, e32_107, e32_110, e32_111, e32_114, e32_115, q_gv0, q_gvs, q_isI1, q_isA1, q_hs0, q_hsn, q_hsi, q_hsr, q_hss, q_inc1, List.set_cons_zero, List.set_cons_succ, ↓reduceIte, q_ss0, q_ssi, q_ssr, q_nr0, q_nr10, q_nr11, q_tlS, q_tlN, q_cl, q_let, q_lef, q_ltt, q_ltf, q_eqt, q_eqf, q_add, q_mul, Nat.reduceAdd, Nat.reduceLeDiff, Nat.reduceEqDiff, eq_self, Nat.zero_le, Nat.le_refl, not_false_eq_true, not_true_eq_false, true_and, and_true, and_self, if_true, if_false, p1.o10, p1.r1, ht.o, cl28 h28, cl27 h27, cl26 h26, hP, q_m1lt, q_m1, q_upS, q_upup, lx_up, q_pl, fgP0, fgP1, tbU, h1, h2, h3, h4, h5, b3]
    exact hQ
  by_cases h6 : ¬ lx M (nbP (lx M) (nbP (lx M) p + 1)) = 44
  · have e1 : tbB (lx M) p = 0 := by simp only [tbB, tbU, h1, h2, h3, h4, h5, h6, if_true, if_false, not_true_eq_false, not_false_eq_true]
    have e2 : tbP (lx M) p = nxF (lx M) (nbP (lx M) (nbP (lx M) p + 1)) := by simp only [tbP, tbU, h1, h2, h3, h4, h5, h6, if_true, if_false, not_true_eq_false, not_false_eq_true]
    rw [e1, e2, if_neg (by simp), if_neg (by simp)] at hQ
    simp (disch := first | assumption | omega | exact tX_up p2 (by decide) (by decide) | exact pl_ex (by omega)) only [e32_0, e32_1, e32_4, e32_5, e32_6, e32_9, e32_10, e32_11, e32_14, e32_15, e32_18, e32_20, e32_23, e32_24, e32_25, e32_26, e32_29, e32_30, e32_31, e32_34, e32_35, e32_36, e32_39, e32_40, e32_43, e32_45, e32_48, e32_49, e32_50, e32_51, e32_52, e32_53, e32_55, e32_57, e32_58, e32_61, e32_62, e32_65, e32_67, e32_69, e32_72, e32_73, e32_74, e32_75, e32_77, e32_78, e32_80, e32_81, e32_82, e32_85, e32_88, e32_89, e32_92, e32_94, e32_97, e32_98, e32_101, e32_102, e32_103, e32_104, e32_107, e32_110, e32_111, e32_114, e32_115, q_gv0, q_gvs, q_isI1, q_isA1, q_hs0, q_hsn, q_hsi, q_hsr, q_hss, q_inc1, List.set_cons_zero, List.set_cons_succ, ↓reduceIte, q_ss0, q_ssi, q_ssr, q_nr0, q_nr10, q_nr11, q_tlS, q_tlN, q_cl, q_let, q_lef, q_ltt, q_ltf, q_eqt, q_eqf, q_add, q_mul, Nat.reduceAdd, Nat.reduceLeDiff, Nat.reduceEqDiff, eq_self, Nat.zero_le, Nat.le_refl, not_false_eq_true, not_true_eq_false, true_and, and_true, and_self, if_true, if_false, p1.o10, p1.r1, ht.o, cl28 h28, cl27 h27, cl26 h26, hP, q_m1lt, q_m1, q_upS, q_upup, lx_up, q_pl, fgP0, fgP1, tbU, h1, h2, h3, h4, h5, h6, b3]
    exact hQ
  replace h6 : lx M (nbP (lx M) (nbP (lx M) p + 1)) = 44 := by
    by_cases z : lx M (nbP (lx M) (nbP (lx M) p + 1)) = 44
    · exact z
    · exact absurd z h6
  have a6 : nbP (lx M) (nbP (lx M) p + 1) < 96 := lx_end p2 (by rw [h6]; decide)
  have b6 : nxF (lx M) (nbP (lx M) (nbP (lx M) p + 1)) = nbP (lx M) (nbP (lx M) p + 1) + 1 := nxF1 h6 (by decide)
  have f1 := fgF_le (lx M) (nbP (lx M) (nbP (lx M) p + 1) + 1)
  by_cases h7 : fgF (lx M) (nbP (lx M) (nbP (lx M) p + 1) + 1) = 0
  · have e1 : tbB (lx M) p = 0 := by simp only [tbB, tbU, h1, h2, h3, h4, h5, h6, h7, if_true, if_false, not_true_eq_false, not_false_eq_true]
    have e2 : tbP (lx M) p = tbU (lx M) p := by simp only [tbP, tbU, h1, h2, h3, h4, h5, h6, h7, if_true, if_false, not_true_eq_false, not_false_eq_true]
    rw [e1, e2, if_neg (by simp), if_neg (by simp)] at hQ
    unfold tbU at hQ
    simp (disch := first | assumption | omega | exact tX_up p2 (by decide) (by decide) | exact pl_ex (by omega)) only [e32_0, e32_1, e32_4, e32_5, e32_6, e32_9, e32_10, e32_11, e32_14, e32_15, e32_18, e32_20, e32_23, e32_24, e32_25, e32_26, e32_29, e32_30, e32_31, e32_34, e32_35, e32_36, e32_39, e32_40, e32_43, e32_45, e32_48, e32_49, e32_50, e32_51, e32_52, e32_53, e32_55, e32_57, e32_58, e32_61, e32_62, e32_65, e32_67, e32_69, e32_72, e32_73, e32_74, e32_75, e32_77, e32_78, e32_80, e32_81, e32_82, e32_85, e32_88, e32_89, e32_92, e32_94, e32_97, e32_98, e32_101, e32_102, e32_103, e32_104, e32_107, e32_110, e32_111, e32_114, e32_115, q_gv0, q_gvs, q_isI1, q_isA1, q_hs0, q_hsn, q_hsi, q_hsr, q_hss, q_inc1, List.set_cons_zero, List.set_cons_succ, ↓reduceIte, q_ss0, q_ssi, q_ssr, q_nr0, q_nr10, q_nr11, q_tlS, q_tlN, q_cl, q_let, q_lef, q_ltt, q_ltf, q_eqt, q_eqf, q_add, q_mul, Nat.reduceAdd, Nat.reduceLeDiff, Nat.reduceEqDiff, eq_self, Nat.zero_le, Nat.le_refl, not_false_eq_true, not_true_eq_false, true_and, and_true, and_self, if_true, if_false, p1.o10, p1.r1, ht.o, cl28 h28, cl27 h27, cl26 h26, hP, q_m1lt, q_m1, q_upS, q_upup, lx_up, q_pl, fgP0, fgP1, tbU, h1, h2, h3, h4, h5, h6, h7, b3, b6]
    exact hQ
  have a7 := fgF_end p2 h7
  have f2 := fgF_le (lx M) (nbP (lx M) (nbP (lx M) p + 1) + 1 + 1)
  by_cases h8 : fgF (lx M) (nbP (lx M) (nbP (lx M) p + 1) + 1 + 1) = 0
  · have e1 : tbB (lx M) p = 0 := by simp only [tbB, tbU, h1, h2, h3, h4, h5, h6, h7, h8, if_true, if_false, not_true_eq_false, not_false_eq_true]
    have e2 : tbP (lx M) p = tbU (lx M) p + 1 := by simp only [tbP, tbU, h1, h2, h3, h4, h5, h6, h7, h8, if_true, if_false, not_true_eq_false, not_false_eq_true]
    rw [e1, e2, if_neg (by simp), if_neg (by simp)] at hQ
    unfold tbU at hQ
    simp (disch := first | assumption | omega | exact tX_up p2 (by decide) (by decide) | exact pl_ex (by omega)) only [e32_0, e32_1, e32_4, e32_5, e32_6, e32_9, e32_10, e32_11, e32_14, e32_15, e32_18, e32_20, e32_23, e32_24, e32_25, e32_26, e32_29, e32_30, e32_31, e32_34, e32_35, e32_36, e32_39, e32_40, e32_43, e32_45, e32_48, e32_49, e32_50, e32_51, e32_52, e32_53, e32_55, e32_57, e32_58, e32_61, e32_62, e32_65, e32_67, e32_69, e32_72, e32_73, e32_74, e32_75, e32_77, e32_78, e32_80, e32_81, e32_82, e32_85, e32_88, e32_89, e32_92, e32_94, e32_97, e32_98, e32_101, e32_102, e32_103, e32_104, e32_107, e32_110, e32_111, e32_114, e32_115, q_gv0, q_gvs, q_isI1, q_isA1, q_hs0, q_hsn, q_hsi, q_hsr, q_hss, q_inc1, List.set_cons_zero, List.set_cons_succ, ↓reduceIte, q_ss0, q_ssi, q_ssr, q_nr0, q_nr10, q_nr11, q_tlS, q_tlN, q_cl, q_let, q_lef, q_ltt, q_ltf, q_eqt, q_eqf, q_add, q_mul, Nat.reduceAdd, Nat.reduceLeDiff, Nat.reduceEqDiff, eq_self, Nat.zero_le, Nat.le_refl, not_false_eq_true, not_true_eq_false, true_and, and_true, and_self, if_true, if_false, p1.o10, p1.r1, ht.o, cl28 h28, cl27 h27, cl26 h26, hP, q_m1lt, q_m1, q_upS, q_upup, lx_up, q_pl, fgP0, fgP1, tbU, h1, h2, h3, h4, h5, h6, h7, h8, b3, b6]
    exact hQ
  have a8 := fgF_end p2 h8
  have f3 := fgF_le (lx M) (nbP (lx M) (nbP (lx M) p + 1) + 1 + 1 + 1)
  by_cases h9 : fgF (lx M) (nbP (lx M) (nbP (lx M) p + 1) + 1 + 1 + 1) = 0
  · have e1 : tbB (lx M) p = 0 := by simp only [tbB, tbU, h1, h2, h3, h4, h5, h6, h7, h8, h9, if_true, if_false, not_true_eq_false, not_false_eq_true]
    have e2 : tbP (lx M) p = tbU (lx M) p + 1 + 1 := by simp only [tbP, tbU, h1, h2, h3, h4, h5, h6, h7, h8, h9, if_true, if_false, not_true_eq_false, not_false_eq_true]
    rw [e1, e2, if_neg (by simp), if_neg (by simp)] at hQ
    unfold tbU at hQ
    simp (disch := first | assumption | omega | exact tX_up p2 (by decide) (by decide) | exact pl_ex (by omega)) only [e32_0, e32_1, e32_4, e32_5, e32_6, e32_9, e32_10, e32_11, e32_14, e32_15, e32_18, e32_20, e32_23, e32_24, e32_25, e32_26, e32_29, e32_30, e32_31, e32_34, e32_35, e32_36, e32_39, e32_40, e32_43, e32_45, e32_48, e32_49, e32_50, e32_51, e32_52, e32_53, e32_55, e32_57, e32_58, e32_61, e32_62, e32_65, e32_67, e32_69, e32_72, e32_73, e32_74, e32_75, e32_77, e32_78, e32_80, e32_81, e32_82, e32_85, e32_88, e32_89, e32_92, e32_94, e32_97, e32_98, e32_101, e32_102, e32_103, e32_104, e32_107, e32_110, e32_111, e32_114, e32_115, q_gv0, q_gvs, q_isI1, q_isA1, q_hs0, q_hsn, q_hsi, q_hsr, q_hss, q_inc1, List.set_cons_zero, List.set_cons_succ, ↓reduceIte, q_ss0, q_ssi, q_ssr, q_nr0, q_nr10, q_nr11, q_tlS, q_tlN, q_cl, q_let, q_lef, q_ltt, q_ltf, q_eqt, q_eqf, q_add, q_mul, Nat.reduceAdd, Nat.reduceLeDiff, Nat.reduceEqDiff, eq_self, Nat.zero_le, Nat.le_refl, not_false_eq_true, not_true_eq_false, true_and, and_true, and_self, if_true, if_false, p1.o10, p1.r1, ht.o, cl28 h28, cl27 h27, cl26 h26, hP, q_m1lt, q_m1, q_upS, q_upup, lx_up, q_pl, fgP0, fgP1, tbU, h1, h2, h3, h4, h5, h6, h7, h8, h9, b3, b6]
    exact hQ
  have a9 := fgF_end p2 h9
  have f4 := fgF_le (lx M) (nbP (lx M) (nbP (lx M) p + 1) + 1 + 1 + 1 + 1)
  by_cases h10 : fgF (lx M) (nbP (lx M) (nbP (lx M) p + 1) + 1 + 1 + 1 + 1) = 0
  · have e1 : tbB (lx M) p = 0 := by simp only [tbB, tbU, h1, h2, h3, h4, h5, h6, h7, h8, h9, h10, if_true, if_false, not_true_eq_false, not_false_eq_true]
    have e2 : tbP (lx M) p = tbU (lx M) p + 1 + 1 + 1 := by simp only [tbP, tbU, h1, h2, h3, h4, h5, h6, h7, h8, h9, h10, if_true, if_false, not_true_eq_false, not_false_eq_true]
    rw [e1, e2, if_neg (by simp), if_neg (by simp)] at hQ
    unfold tbU at hQ
    simp (disch := first | assumption | omega | exact tX_up p2 (by decide) (by decide) | exact pl_ex (by omega)) only [e32_0, e32_1, e32_4, e32_5, e32_6, e32_9, e32_10, e32_11, e32_14, e32_15, e32_18, e32_20, e32_23, e32_24, e32_25, e32_26, e32_29, e32_30, e32_31, e32_34, e32_35, e32_36, e32_39, e32_40, e32_43, e32_45, e32_48, e32_49, e32_50, e32_51, e32_52, e32_53, e32_55, e32_57, e32_58, e32_61, e32_62, e32_65, e32_67, e32_69, e32_72, e32_73, e32_74, e32_75, e32_77, e32_78, e32_80, e32_81, e32_82, e32_85, e32_88, e32_89, e32_92, e32_94, e32_97, e32_98, e32_101, e32_102, e32_103, e32_104, e32_107, e32_110, e32_111, e32_114, e32_115, q_gv0, q_gvs, q_isI1, q_isA1, q_hs0, q_hsn, q_hsi, q_hsr, q_hss, q_inc1, List.set_cons_zero, List.set_cons_succ, ↓reduceIte, q_ss0, q_ssi, q_ssr, q_nr0, q_nr10, q_nr11, q_tlS, q_tlN, q_cl, q_let, q_lef, q_ltt, q_ltf, q_eqt, q_eqf, q_add, q_mul, Nat.reduceAdd, Nat.reduceLeDiff, Nat.reduceEqDiff, eq_self, Nat.zero_le, Nat.le_refl, not_false_eq_true, not_true_eq_false, true_and, and_true, and_self, if_true, if_false, p1.o10, p1.r1, ht.o, cl28 h28, cl27 h27, cl26 h26, hP, q_m1lt, q_m1, q_upS, q_upup, lx_up, q_pl, fgP0, fgP1, tbU, h1, h2, h3, h4, h5, h6, h7, h8, h9, h10, b3, b6]
    exact hQ
  have a10 := fgF_end p2 h10
  have l3 := lx_lt p2 (nbP (lx M) (nbP (lx M) p + 1) + 1 + 1 + 1 + 1 + 1)
  by_cases h11 : ¬ lx M (nbP (lx M) (nbP (lx M) p + 1) + 1 + 1 + 1 + 1 + 1) = 59
  · have e1 : tbB (lx M) p = 0 := by simp only [tbB, tbU, h1, h2, h3, h4, h5, h6, h7, h8, h9, h10, h11, if_true, if_false, not_true_eq_false, not_false_eq_true]
    have e2 : tbP (lx M) p = nxF (lx M) (tbU (lx M) p + 1 + 1 + 1 + 1) := by simp only [tbP, tbU, h1, h2, h3, h4, h5, h6, h7, h8, h9, h10, h11, if_true, if_false, not_true_eq_false, not_false_eq_true]
    rw [e1, e2, if_neg (by simp), if_neg (by simp)] at hQ
    unfold tbU at hQ
    simp (disch := first | assumption | omega | exact tX_up p2 (by decide) (by decide) | exact pl_ex (by omega)) only [e32_0, e32_1, e32_4, e32_5, e32_6, e32_9, e32_10, e32_11, e32_14, e32_15, e32_18, e32_20, e32_23, e32_24, e32_25, e32_26, e32_29, e32_30, e32_31, e32_34, e32_35, e32_36, e32_39, e32_40, e32_43, e32_45, e32_48, e32_49, e32_50, e32_51, e32_52, e32_53, e32_55, e32_57, e32_58, e32_61, e32_62, e32_65, e32_67, e32_69, e32_72, e32_73, e32_74, e32_75, e32_77, e32_78, e32_80, e32_81, e32_82, e32_85, e32_88, e32_89, e32_92, e32_94, e32_97, e32_98, e32_101, e32_102, e32_103, e32_104, e32_107, e32_110, e32_111, e32_114, e32_115, q_gv0, q_gvs, q_isI1, q_isA1, q_hs0, q_hsn, q_hsi, q_hsr, q_hss, q_inc1, List.set_cons_zero, List.set_cons_succ, ↓reduceIte, q_ss0, q_ssi, q_ssr, q_nr0, q_nr10, q_nr11, q_tlS, q_tlN, q_cl, q_let, q_lef, q_ltt, q_ltf, q_eqt, q_eqf, q_add, q_mul, Nat.reduceAdd, Nat.reduceLeDiff, Nat.reduceEqDiff, eq_self, Nat.zero_le, Nat.le_refl, not_false_eq_true, not_true_eq_false, true_and, and_true, and_self, if_true, if_false, p1.o10, p1.r1, ht.o, cl28 h28, cl27 h27, cl26 h26, hP, q_m1lt, q_m1, q_upS, q_upup, lx_up, q_pl, fgP0, fgP1, tbU, h1, h2, h3, h4, h5, h6, h7, h8, h9, h10, h11, b3, b6]
    exact hQ
  replace h11 : lx M (nbP (lx M) (nbP (lx M) p + 1) + 1 + 1 + 1 + 1 + 1) = 59 := by
    by_cases z : lx M (nbP (lx M) (nbP (lx M) p + 1) + 1 + 1 + 1 + 1 + 1) = 59
    · exact z
    · exact absurd z h11
  have e1 : tbB (lx M) p = 1 := by simp only [tbB, tbU, h1, h2, h3, h4, h5, h6, h7, h8, h9, h10, h11, if_true, if_false, not_true_eq_false, not_false_eq_true]
  have e2 : tbP (lx M) p = nxF (lx M) (tbU (lx M) p + 1 + 1 + 1 + 1) := by simp only [tbP, tbU, h1, h2, h3, h4, h5, h6, h7, h8, h9, h10, h11, if_true, if_false, not_true_eq_false, not_false_eq_true]
  have hR : tbR (lx M) p < 10000 := by
    unfold tbR tbU
    omega
  unfold tbR at hR hQ
  rw [e1, e2] at hQ
  unfold tbU at hQ hR
  by_cases h12 : nT = 6
  · rw [if_neg (fun z => z.2 h12), if_neg (fun z => z.2 h12)] at hQ
    simp (disch := first | assumption | omega | exact tX_up p2 (by decide) (by decide) | exact pl_ex (by omega) | exact up_ex10 p4) only [e32_0, e32_1, e32_4, e32_5, e32_6, e32_9, e32_10, e32_11, e32_14, e32_15, e32_18, e32_20, e32_23, e32_24, e32_25, e32_26, e32_29, e32_30, e32_31, e32_34, e32_35, e32_36, e32_39, e32_40, e32_43, e32_45, e32_48, e32_49, e32_50, e32_51, e32_52, e32_53, e32_55, e32_57, e32_58, e32_61, e32_62, e32_65, e32_67, e32_69, e32_72, e32_73, e32_74, e32_75, e32_77, e32_78, e32_80, e32_81, e32_82, e32_85, e32_88, e32_89, e32_92, e32_94, e32_97, e32_98, e32_101, e32_102, e32_103, e32_104, e32_107, e32_110, e32_111, e32_114, e32_115, q_gv0, q_gvs, q_isI1, q_isA1, q_hs0, q_hsn, q_hsi, q_hsr, q_hss, q_inc1, List.set_cons_zero, List.set_cons_succ, ↓reduceIte, q_ss0, q_ssi, q_ssr, q_nr0, q_nr10, q_nr11, q_tlS, q_tlN, q_cl, q_let, q_lef, q_ltt, q_ltf, q_eqt, q_eqf, q_add, q_mul, Nat.reduceAdd, Nat.reduceLeDiff, Nat.reduceEqDiff, eq_self, Nat.zero_le, Nat.le_refl, not_false_eq_true, not_true_eq_false, true_and, and_true, and_self, if_true, if_false, p1.o10, p1.r1, ht.o, cl28 h28, cl27 h27, cl26 h26, cl31 h31, hP, q_m1lt, q_m1, q_upS, q_upup, lx_up, q_pl, fgP0, fgP1, tbU, h1, h2, h3, h4, h5, h6, h7, h8, h9, h10, h11, b3, b6, q_upO, hT, h12, atM_pl]
    exact hQ
  · rw [if_pos ⟨rfl, h12⟩, if_pos ⟨rfl, h12⟩] at hQ
    simp (disch := first | assumption | omega | exact tX_up p2 (by decide) (by decide) | exact pl_ex (by omega) | exact up_ex10 p4) only [e32_0, e32_1, e32_4, e32_5, e32_6, e32_9, e32_10, e32_11, e32_14, e32_15, e32_18, e32_20, e32_23, e32_24, e32_25, e32_26, e32_29, e32_30, e32_31, e32_34, e32_35, e32_36, e32_39, e32_40, e32_43, e32_45, e32_48, e32_49, e32_50, e32_51, e32_52, e32_53, e32_55, e32_57, e32_58, e32_61, e32_62, e32_65, e32_67, e32_69, e32_72, e32_73, e32_74, e32_75, e32_77, e32_78, e32_80, e32_81, e32_82, e32_85, e32_88, e32_89, e32_92, e32_94, e32_97, e32_98, e32_101, e32_102, e32_103, e32_104, e32_107, e32_110, e32_111, e32_114, e32_115, q_gv0, q_gvs, q_isI1, q_isA1, q_hs0, q_hsn, q_hsi, q_hsr, q_hss, q_inc1, List.set_cons_zero, List.set_cons_succ, ↓reduceIte, q_ss0, q_ssi, q_ssr, q_nr0, q_nr10, q_nr11, q_tlS, q_tlN, q_cl, q_let, q_lef, q_ltt, q_ltf, q_eqt, q_eqf, q_add, q_mul, Nat.reduceAdd, Nat.reduceLeDiff, Nat.reduceEqDiff, eq_self, Nat.zero_le, Nat.le_refl, not_false_eq_true, not_true_eq_false, true_and, and_true, and_self, if_true, if_false, p1.o10, p1.r1, ht.o, cl28 h28, cl27 h27, cl26 h26, cl31 h31, hP, q_m1lt, q_m1, q_upS, q_upup, lx_up, q_pl, fgP0, fgP1, tbU, h1, h2, h3, h4, h5, h6, h7, h8, h9, h10, h11, b3, b6, q_upO, hT, h12, atM_pl]
    exact hQ
