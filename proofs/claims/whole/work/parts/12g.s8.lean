/-! packs, drafts, items, the text -/
/-- a pack's row read: how it ended (1: so far so good), the place, the set -/
def pkF (T : Nat → Nat) (nT : Nat) : Nat → Nat → Int32 → Nat × Nat × Int32
  | 0, p, x => (1, p, x)
  | n + 1, p, x => if T p = 59 then (1, p, x) else if fgF T p = 0 then (0, p, x) else if nT < fgF T p then (0, p + 1, x) else if x >>> (nI (fgF T p - 1) &&& 31) &&& nI 1 = nI 1 then (0, p + 1, x)
    else pkF T nT n (p + 1) (x ||| (nI 1 <<< (nI (fgF T p - 1) &&& 31)))
theorem lp34 {S : Nat → mv_Sp} (h25 : S 25 = sp25) (h27 : S 27 = sp27) {sh : mv_Shp} {M : mv_Mem} {P : mv_Post} {nT : Nat} (p1 : oX sh) (p2 : tX M) (hT : M 11 0 = nI nT) (hT6 : nT ≤ 6) :
    ∀ n i p x x3, i + n = 6 → p < 201 → ((pkF (lx M) nT n p x).1 = 0 → P (some (.int (nI 0))) sh (mv_up M 10 2 (nI (pkF (lx M) nT n p x).2.1))) →
      ((pkF (lx M) nT n p x).1 = 1 → ∀ i' x3', (pkF (lx M) nT n p x).2.1 < 201 → mr34 S P 62 [some (.ref 10), some (.int (pkF (lx M) nT n p x).2.2), some (.int (nI i')), x3'] [] sh (mv_up M 10 2 (nI (pkF (lx M) nT n p x).2.1)) 0 0) →
      mr34 S P 4 [some (.ref 10), some (.int x), some (.int (nI i)), x3] [] sh (mv_up M 10 2 (nI p)) 0 0
  | 0, i, p, x, x3, hi, hp, h0, h1 => by
    obtain rfl : i = 6 := by omega
    rw [e34_4]
    simp (disch := first | assumption | omega | exact tX_up p2 (by decide) (by decide) | exact pl_ex (by omega)) only [e34_0, e34_1, e34_2, e34_3, e34_5, e34_7, e34_10, e34_11, e34_14, e34_16, e34_19, e34_20, e34_23, e34_24, e34_25, e34_28, e34_29, e34_30, e34_33, e34_36, e34_39, e34_40, e34_41, e34_42, e34_43, e34_44, e34_45, e34_48, e34_49, e34_50, e34_51, e34_52, e34_53, e34_54, e34_55, e34_56, e34_59, e34_63, e34_66, e34_67, e34_70, e34_72, e34_75, e34_76, e34_79, e34_80, e34_83, e34_86, e34_87, e34_90, e34_91, q_gv0, q_gvs, q_isI1, q_isA1, q_hs0, q_hsn, q_hsi, q_hsr, q_hss, q_inc1, List.set_cons_zero, List.set_cons_succ, ↓reduceIte, q_ss0, q_ssi, q_ssr, q_nr0, q_nr10, q_nr11, q_tlS, q_tlN, q_cl, q_let, q_lef, q_ltt, q_ltf, q_eqt, q_eqf, q_add, q_mul, Nat.reduceAdd, Nat.reduceLeDiff, Nat.reduceEqDiff, eq_self, Nat.zero_le, Nat.le_refl, not_false_eq_true, not_true_eq_false, true_and, and_true, and_self, if_true, if_false]
    exact h1 rfl 6 x3 hp
  | n + 1, i, p, x, x3, hi, hp, h0, h1 => by
    rw [e34_4]
    have ht := p1.told
    have l1 := lx_lt p2 p
    have f1 := fgF_le (lx M) p
    unfold pkF at h0 h1
    by_cases c1 : lx M p = 59
    · rw [if_pos c1] at h1
      simp (disch := first | assumption | omega | exact tX_up p2 (by decide) (by decide) | exact pl_ex (by omega)) only [e34_0, e34_1, e34_2, e34_3, e34_5, e34_7, e34_10, e34_11, e34_14, e34_16, e34_19, e34_20, e34_23, e34_24, e34_25, e34_28, e34_29, e34_30, e34_33, e34_36, e34_39, e34_40, e34_41, e34_42, e34_43, e34_44, e34_45, e34_48, e34_49, e34_50, e34_51, e34_52, e34_53, e34_54, e34_55, e34_56, e34_59, e34_63, e34_66, e34_67, e34_70, e34_72, e34_75, e34_76, e34_79, e34_80, e34_83, e34_86, e34_87, e34_90, e34_91, q_gv0, q_gvs, q_isI1, q_isA1, q_hs0, q_hsn, q_hsi, q_hsr, q_hss, q_inc1, List.set_cons_zero, List.set_cons_succ, ↓reduceIte, q_ss0, q_ssi, q_ssr, q_nr0, q_nr10, q_nr11, q_tlS, q_tlN, q_cl, q_let, q_lef, q_ltt, q_ltf, q_eqt, q_eqf, q_add, q_mul, Nat.reduceAdd, Nat.reduceLeDiff, Nat.reduceEqDiff, eq_self, Nat.zero_le, Nat.le_refl, not_false_eq_true, not_true_eq_false, true_and, and_true, and_self, if_true, if_false, p1.o10, cl25 h25, q_upS, lx_up, c1]
      exact h1 rfl i x3 hp
    · rw [if_neg c1] at h0 h1
      by_cases c2 : fgF (lx M) p = 0
      · rw [if_pos c2] at h0
        simp (disch := first | assumption | omega | exact tX_up p2 (by decide) (by decide) | exact pl_ex (by omega)) only [e34_0, e34_1, e34_2, e34_3, e34_5, e34_7, e34_10, e34_11, e34_14, e34_16, e34_19, e34_20, e34_23, e34_24, e34_25, e34_28, e34_29, e34_30, e34_33, e34_36, e34_39, e34_40, e34_41, e34_42, e34_43, e34_44, e34_45, e34_48, e34_49, e34_50, e34_51, e34_52, e34_53, e34_54, e34_55, e34_56, e34_59, e34_63, e34_66, e34_67, e34_70, e34_72, e34_75, e34_76, e34_79, e34_80, e34_83, e34_86, e34_87, e34_90, e34_91, q_gv0, q_gvs, q_isI1, q_isA1, q_hs0, q_hsn, q_hsi, q_hsr, q_hss, q_inc1, List.set_cons_zero, List.set_cons_succ, ↓reduceIte, q_ss0, q_ssi, q_ssr, q_nr0, q_nr10, q_nr11, q_tlS, q_tlN, q_cl, q_let, q_lef, q_ltt, q_ltf, q_eqt, q_eqf, q_add, q_mul, Nat.reduceAdd, Nat.reduceLeDiff, Nat.reduceEqDiff, eq_self, Nat.zero_le, Nat.le_refl, not_false_eq_true, not_true_eq_false, true_and, and_true, and_self, if_true, if_false, p1.o10, cl25 h25, cl27 h27, q_upS, q_upup, lx_up, c1, c2, q_m1lt, fgP0]
        exact h0 rfl
      · rw [if_neg c2] at h0 h1
        have a2 := fgF_end p2 c2
        by_cases c3 : nT < fgF (lx M) p
        · rw [if_pos c3] at h0
          simp (disch := first | assumption | omega | exact tX_up p2 (by decide) (by decide) | exact pl_ex (by omega)) only [e34_0, e34_1, e34_2, e34_3, e34_5, e34_7, e34_10, e34_11, e34_14, e34_16, e34_19, e34_20, e34_23, e34_24, e34_25, e34_28, e34_29, e34_30, e34_33, e34_36, e34_39, e34_40, e34_41, e34_42, e34_43, e34_44, e34_45, e34_48, e34_49, e34_50, e34_51, e34_52, e34_53, e34_54, e34_55, e34_56, e34_59, e34_63, e34_66, e34_67, e34_70, e34_72, e34_75, e34_76, e34_79, e34_80, e34_83, e34_86, e34_87, e34_90, e34_91, q_gv0, q_gvs, q_isI1, q_isA1, q_hs0, q_hsn, q_hsi, q_hsr, q_hss, q_inc1, List.set_cons_zero, List.set_cons_succ, ↓reduceIte, q_ss0, q_ssi, q_ssr, q_nr0, q_nr10, q_nr11, q_tlS, q_tlN, q_cl, q_let, q_lef, q_ltt, q_ltf, q_eqt, q_eqf, q_add, q_mul, Nat.reduceAdd, Nat.reduceLeDiff, Nat.reduceEqDiff, eq_self, Nat.zero_le, Nat.le_refl, not_false_eq_true, not_true_eq_false, true_and, and_true, and_self, if_true, if_false, p1.o10, p1.r1, ht.g0, cl25 h25, cl27 h27, q_upS, q_upup, q_upO, lx_up, c1, c2, q_m1lt, fgP1, hT]
          exact h0 rfl
        · rw [if_neg c3] at h0 h1
          by_cases c4 : x >>> (nI (fgF (lx M) p - 1) &&& 31) &&& nI 1 = nI 1
          · rw [if_pos c4] at h0
            simp (disch := first | assumption | omega | exact tX_up p2 (by decide) (by decide) | exact pl_ex (by omega)) only [e34_0, e34_1, e34_2, e34_3, e34_5, e34_7, e34_10, e34_11, e34_14, e34_16, e34_19, e34_20, e34_23, e34_24, e34_25, e34_28, e34_29, e34_30, e34_33, e34_36, e34_39, e34_40, e34_41, e34_42, e34_43, e34_44, e34_45, e34_48, e34_49, e34_50, e34_51, e34_52, e34_53, e34_54, e34_55, e34_56, e34_59, e34_63, e34_66, e34_67, e34_70, e34_72, e34_75, e34_76, e34_79, e34_80, e34_83, e34_86, e34_87, e34_90, e34_91, q_gv0, q_gvs, q_isI1, q_isA1, q_hs0, q_hsn, q_hsi, q_hsr, q_hss, q_inc1, List.set_cons_zero, List.set_cons_succ, ↓reduceIte, q_ss0, q_ssi, q_ssr, q_nr0, q_nr10, q_nr11, q_tlS, q_tlN, q_cl, q_let, q_lef, q_ltt, q_ltf, q_eqt, q_eqf, q_add, q_mul, Nat.reduceAdd, Nat.reduceLeDiff, Nat.reduceEqDiff, eq_self, Nat.zero_le, Nat.le_refl, not_false_eq_true, not_true_eq_false, true_and, and_true, and_self, if_true, if_false, p1.o10, p1.r1, ht.g0, cl25 h25, cl27 h27, q_upS, q_upup, q_upO, lx_up, c1, c2, q_m1lt, fgP1, hT, c4]
            exact h0 rfl
          · rw [if_neg c4] at h0 h1
            simp (disch := first | assumption | omega | exact tX_up p2 (by decide) (by decide) | exact pl_ex (by omega)) only [e34_0, e34_1, e34_2, e34_3, e34_5, e34_7, e34_10, e34_11, e34_14, e34_16, e34_19, e34_20, e34_23, e34_24, e34_25, e34_28, e34_29, e34_30, e34_33, e34_36, e34_39, e34_40, e34_41, e34_42, e34_43, e34_44, e34_45, e34_48, e34_49, e34_50, e34_51, e34_52, e34_53, e34_54, e34_55, e34_56, e34_59, e34_63, e34_66, e34_67, e34_70, e34_72, e34_75, e34_76, e34_79, e34_80, e34_83, e34_86, e34_87, e34_90, e34_91, q_gv0, q_gvs, q_isI1, q_isA1, q_hs0, q_hsn, q_hsi, q_hsr, q_hss, q_inc1, List.set_cons_zero, List.set_cons_succ, ↓reduceIte, q_ss0, q_ssi, q_ssr, q_nr0, q_nr10, q_nr11, q_tlS, q_tlN, q_cl, q_let, q_lef, q_ltt, q_ltf, q_eqt, q_eqf, q_add, q_mul, Nat.reduceAdd, Nat.reduceLeDiff, Nat.reduceEqDiff, eq_self, Nat.zero_le, Nat.le_refl, not_false_eq_true, not_true_eq_false, true_and, and_true, and_self, if_true, if_false, p1.o10, p1.r1, ht.g0, cl25 h25, cl27 h27, q_upS, q_upup, q_upO, lx_up, c1, c2, q_m1lt, fgP1, hT, c4]
            exact lp34 h25 h27 p1 p2 hT hT6 n (i + 1) (p + 1) _ _ (by omega) (by omega) h0 h1
theorem pkF_01 (T : Nat → Nat) (nT : Nat) : ∀ n p x, (pkF T nT n p x).1 = 0 ∨ (pkF T nT n p x).1 = 1
  | 0, p, x => Or.inr rfl
  | n + 1, p, x => by
    unfold pkF
    split
    · exact Or.inr rfl
    · split
      · exact Or.inl rfl
      · split
        · exact Or.inl rfl
        · split
          · exact Or.inl rfl
          · exact pkF_01 T nT n _ _
def pkC (T : Nat → Nat) (nT p : Nat) : Nat := if (pkF T nT 6 p (nI 0)).1 = 0 then 0 else if (pkF T nT 6 p (nI 0)).2.2 = nI 0 then 0 else if T (pkF T nT 6 p (nI 0)).2.1 = 59 then 1 else 0
def pkP (T : Nat → Nat) (nT p : Nat) : Nat := if (pkF T nT 6 p (nI 0)).1 = 0 then (pkF T nT 6 p (nI 0)).2.1 else if (pkF T nT 6 p (nI 0)).2.2 = nI 0 then (pkF T nT 6 p (nI 0)).2.1 else nxF T (pkF T nT 6 p (nI 0)).2.1
def sp34 : mv_Sp := fun As sh M Q => As = [.ref 10] ∧ ((oX sh) ∧ (tX M) ∧ (∃ p, p < 201 ∧ M 10 2 = nI p) ∧ (∃ n, n < 7 ∧ M 11 0 = nI n) ∧ (∃ n, n < 7 ∧ M 11 1 = nI n)) ∧ Q (some (.int (nI (if pkC (lx M) (M 11 0).toNatClampNeg (M 10 2).toNatClampNeg = 1 ∧ ¬ (M 11 1).toNatClampNeg = 6 then 1 else 0)))) (sh) (if pkC (lx M) (M 11 0).toNatClampNeg (M 10 2).toNatClampNeg = 1 ∧ ¬ (M 11 1).toNatClampNeg = 6 then mv_up (mv_up (mv_up M 16 (M 11 1).toNatClampNeg (pkF (lx M) (M 11 0).toNatClampNeg 6 (M 10 2).toNatClampNeg (nI 0)).2.2) 11 1 (nI ((M 11 1).toNatClampNeg + 1))) 10 2 (nI (pkP (lx M) (M 11 0).toNatClampNeg (M 10 2).toNatClampNeg)) else mv_up M 10 2 (nI (pkP (lx M) (M 11 0).toNatClampNeg (M 10 2).toNatClampNeg)))
theorem cl34 {S : Nat → mv_Sp} (hS : S 34 = sp34) {sh : mv_Shp} {M : mv_Mem}  (p1 : oX sh) (p2 : tX M) (p3 : ∃ p, p < 201 ∧ M 10 2 = nI p) (p4 : ∃ n, n < 7 ∧ M 11 0 = nI n) (p5 : ∃ n, n < 7 ∧ M 11 1 = nI n) {K : mv_Kt} {pc : Nat} {L : mv_Loc} {st : List Value} {cc_ ss_ : Nat} : mv_kal S 34 [.ref 10] sh M K pc L st cc_ ss_ = K pc L ((some (.int (nI (if pkC (lx M) (M 11 0).toNatClampNeg (M 10 2).toNatClampNeg = 1 ∧ ¬ (M 11 1).toNatClampNeg = 6 then 1 else 0))) : Option Value).toList ++ st) (sh) (if pkC (lx M) (M 11 0).toNatClampNeg (M 10 2).toNatClampNeg = 1 ∧ ¬ (M 11 1).toNatClampNeg = 6 then mv_up (mv_up (mv_up M 16 (M 11 1).toNatClampNeg (pkF (lx M) (M 11 0).toNatClampNeg 6 (M 10 2).toNatClampNeg (nI 0)).2.2) 11 1 (nI ((M 11 1).toNatClampNeg + 1))) 10 2 (nI (pkP (lx M) (M 11 0).toNatClampNeg (M 10 2).toNatClampNeg)) else mv_up M 10 2 (nI (pkP (lx M) (M 11 0).toNatClampNeg (M 10 2).toNatClampNeg))) cc_ ss_ := by
  refine q_kal (fun F => q_cali (fun Q => ?_))
  rw [hS]
  constructor
  · rintro ⟨hE, ⟨zp1, zp2, zp3, zp4, zp5⟩, hQ⟩
    exact hQ
  · intro hQ
    exact ⟨rfl, ⟨p1, p2, p3, p4, p5⟩, hQ⟩
theorem ct34 {S : Nat → mv_Sp} (h25 : S 25 = sp25) (h26 : S 26 = sp26) (h27 : S 27 = sp27) (h33 : S 33 = sp33) : ∀ As sh M P, sp34 As sh M P → (mv_al0 As).length ≤ 4 ∧ mr34 S P 0 (mv_ent As 4) [] sh M 0 0 := by
  rintro As sh M P ⟨rfl, ⟨p1, p2, p3, p4, p5⟩, hQ⟩
  refine ⟨Nat.le_of_ble_eq_true rfl, ?_⟩
  show mr34 S P 0 [some (.ref 10), none, none, none] [] sh M 0 0
  obtain ⟨p, hp, hP⟩ := id p3
  obtain ⟨nT, hnT, hT⟩ := id p4
  obtain ⟨nP, hnP, hNP⟩ := id p5
  rw [hP, hT, hNP, q_cl (show p < 2147483648 by omega), q_cl (show nT < 2147483648 by omega), q_cl (show nP < 2147483648 by omega)] at hQ
  have ht := p1.told
  simp (disch := first | assumption | omega | exact tX_up p2 (by decide) (by decide) | exact pl_ex (by omega)) only [e34_0, e34_1, e34_2, e34_3, q_gv0, q_gvs, q_isI1, q_isA1, q_hs0, q_hsn, q_hsi, q_hsr, q_hss, q_inc1, List.set_cons_zero, List.set_cons_succ, ↓reduceIte, q_ss0, q_ssi, q_ssr, q_nr0, q_nr10, q_nr11, q_tlS, q_tlN, q_cl, q_let, q_lef, q_ltt, q_ltf, q_eqt, q_eqf, q_add, q_mul, Nat.reduceAdd, Nat.reduceLeDiff, Nat.reduceEqDiff, eq_self, Nat.zero_le, Nat.le_refl, not_false_eq_true, not_true_eq_false, true_and, and_true, and_self, if_true, if_false]
  have hM := up_id hP
  have e0 : mr34 S P 4 [some (.ref 10), some (.int (nI 0)), some (.int (nI 0)), none] [] sh M 0 0 = mr34 S P 4 [some (.ref 10), some (.int (nI 0)), some (.int (nI 0)), none] [] sh (mv_up M 10 2 (nI p)) 0 0 := by rw [hM]
  rw [e0]
  refine lp34 h25 h27 p1 p2 hT (by omega) 6 0 p (nI 0) none rfl hp (fun hz => ?_) (fun hz i' x3' hb => ?_)
  · have e1 : pkC (lx M) nT p = 0 := by unfold pkC; rw [if_pos hz]
    have e2 : pkP (lx M) nT p = (pkF (lx M) nT 6 p (nI 0)).2.1 := by unfold pkP; rw [if_pos hz]
    rw [e1, e2, if_neg (by simp), if_neg (by simp)] at hQ
    exact hQ
  · have hz0 : ¬ (pkF (lx M) nT 6 p (nI 0)).1 = 0 := by rw [hz]; decide
    by_cases c1 : (pkF (lx M) nT 6 p (nI 0)).2.2 = nI 0
    · have e1 : pkC (lx M) nT p = 0 := by unfold pkC; rw [if_neg hz0, if_pos c1]
      have e2 : pkP (lx M) nT p = (pkF (lx M) nT 6 p (nI 0)).2.1 := by unfold pkP; rw [if_neg hz0, if_pos c1]
      rw [e1, e2, if_neg (by simp), if_neg (by simp)] at hQ
      simp (disch := first | assumption | omega | exact tX_up p2 (by decide) (by decide) | exact pl_ex (by omega)) only [e34_0, e34_1, e34_2, e34_3, e34_5, e34_7, e34_10, e34_11, e34_14, e34_16, e34_19, e34_20, e34_23, e34_24, e34_25, e34_28, e34_29, e34_30, e34_33, e34_36, e34_39, e34_40, e34_41, e34_42, e34_43, e34_44, e34_45, e34_48, e34_49, e34_50, e34_51, e34_52, e34_53, e34_54, e34_55, e34_56, e34_59, e34_62, e34_63, e34_66, e34_67, e34_70, e34_72, e34_75, e34_76, e34_79, e34_80, e34_83, e34_86, e34_87, e34_90, e34_91, q_gv0, q_gvs, q_isI1, q_isA1, q_hs0, q_hsn, q_hsi, q_hsr, q_hss, q_inc1, List.set_cons_zero, List.set_cons_succ, ↓reduceIte, q_ss0, q_ssi, q_ssr, q_nr0, q_nr10, q_nr11, q_tlS, q_tlN, q_cl, q_let, q_lef, q_ltt, q_ltf, q_eqt, q_eqf, q_add, q_mul, Nat.reduceAdd, Nat.reduceLeDiff, Nat.reduceEqDiff, eq_self, Nat.zero_le, Nat.le_refl, not_false_eq_true, not_true_eq_false, true_and, and_true, and_self, if_true, if_false, c1]
      exact hQ
    · have e2 : pkP (lx M) nT p = nxF (lx M) (pkF (lx M) nT 6 p (nI 0)).2.1 := by unfold pkP; rw [if_neg hz0, if_neg c1]
      rw [e2] at hQ
      have e3 : pkC (lx M) nT p = if (lx M) (pkF (lx M) nT 6 p (nI 0)).2.1 = 59 then 1 else 0 := by unfold pkC; rw [if_neg hz0, if_neg c1]
      rw [e3] at hQ
      generalize (pkF (lx M) nT 6 p (nI 0)).2.2 = x at hQ c1 ⊢
      generalize (pkF (lx M) nT 6 p (nI 0)).2.1 = r at hQ hb ⊢
      have l1 := lx_lt p2 r
      by_cases c2 : lx M r = 59
      · rw [if_pos c2] at hQ
        by_cases c3 : nP = 6
        · rw [if_neg (fun z => z.2 c3), if_neg (fun z => z.2 c3)] at hQ
          simp (disch := first | assumption | omega | exact tX_up p2 (by decide) (by decide) | exact pl_ex (by omega) | exact up_ex10 p5) only [e34_0, e34_1, e34_2, e34_3, e34_5, e34_7, e34_10, e34_11, e34_14, e34_16, e34_19, e34_20, e34_23, e34_24, e34_25, e34_28, e34_29, e34_30, e34_33, e34_36, e34_39, e34_40, e34_41, e34_42, e34_43, e34_44, e34_45, e34_48, e34_49, e34_50, e34_51, e34_52, e34_53, e34_54, e34_55, e34_56, e34_59, e34_62, e34_63, e34_66, e34_67, e34_70, e34_72, e34_75, e34_76, e34_79, e34_80, e34_83, e34_86, e34_87, e34_90, e34_91, q_gv0, q_gvs, q_isI1, q_isA1, q_hs0, q_hsn, q_hsi, q_hsr, q_hss, q_inc1, List.set_cons_zero, List.set_cons_succ, ↓reduceIte, q_ss0, q_ssi, q_ssr, q_nr0, q_nr10, q_nr11, q_tlS, q_tlN, q_cl, q_let, q_lef, q_ltt, q_ltf, q_eqt, q_eqf, q_add, q_mul, Nat.reduceAdd, Nat.reduceLeDiff, Nat.reduceEqDiff, eq_self, Nat.zero_le, Nat.le_refl, not_false_eq_true, not_true_eq_false, true_and, and_true, and_self, if_true, if_false, p1.o10, p1.r1, ht.o, cl26 h26, cl33 h33, q_upS, q_upup, q_upO, lx_up, c1, c2, c3, hNP]
          exact hQ
        · rw [if_pos ⟨rfl, c3⟩, if_pos ⟨rfl, c3⟩] at hQ
          simp (disch := first | assumption | omega | exact tX_up p2 (by decide) (by decide) | exact pl_ex (by omega) | exact up_ex10 p5) only [e34_0, e34_1, e34_2, e34_3, e34_5, e34_7, e34_10, e34_11, e34_14, e34_16, e34_19, e34_20, e34_23, e34_24, e34_25, e34_28, e34_29, e34_30, e34_33, e34_36, e34_39, e34_40, e34_41, e34_42, e34_43, e34_44, e34_45, e34_48, e34_49, e34_50, e34_51, e34_52, e34_53, e34_54, e34_55, e34_56, e34_59, e34_62, e34_63, e34_66, e34_67, e34_70, e34_72, e34_75, e34_76, e34_79, e34_80, e34_83, e34_86, e34_87, e34_90, e34_91, q_gv0, q_gvs, q_isI1, q_isA1, q_hs0, q_hsn, q_hsi, q_hsr, q_hss, q_inc1, List.set_cons_zero, List.set_cons_succ, ↓reduceIte, q_ss0, q_ssi, q_ssr, q_nr0, q_nr10, q_nr11, q_tlS, q_tlN, q_cl, q_let, q_lef, q_ltt, q_ltf, q_eqt, q_eqf, q_add, q_mul, Nat.reduceAdd, Nat.reduceLeDiff, Nat.reduceEqDiff, eq_self, Nat.zero_le, Nat.le_refl, not_false_eq_true, not_true_eq_false, true_and, and_true, and_self, if_true, if_false, p1.o10, p1.r1, ht.o, cl26 h26, cl33 h33, q_upS, q_upup, q_upO, q_pl, lx_up, c1, c2, c3, hNP]
          exact hQ
      · rw [if_neg c2, if_neg (by simp), if_neg (by simp)] at hQ
        simp (disch := first | assumption | omega | exact tX_up p2 (by decide) (by decide) | exact pl_ex (by omega)) only [e34_0, e34_1, e34_2, e34_3, e34_5, e34_7, e34_10, e34_11, e34_14, e34_16, e34_19, e34_20, e34_23, e34_24, e34_25, e34_28, e34_29, e34_30, e34_33, e34_36, e34_39, e34_40, e34_41, e34_42, e34_43, e34_44, e34_45, e34_48, e34_49, e34_50, e34_51, e34_52, e34_53, e34_54, e34_55, e34_56, e34_59, e34_62, e34_63, e34_66, e34_67, e34_70, e34_72, e34_75, e34_76, e34_79, e34_80, e34_83, e34_86, e34_87, e34_90, e34_91, q_gv0, q_gvs, q_isI1, q_isA1, q_hs0, q_hsn, q_hsi, q_hsr, q_hss, q_inc1, List.set_cons_zero, List.set_cons_succ, ↓reduceIte, q_ss0, q_ssi, q_ssr, q_nr0, q_nr10, q_nr11, q_tlS, q_tlN, q_cl, q_let, q_lef, q_ltt, q_ltf, q_eqt, q_eqf, q_add, q_mul, Nat.reduceAdd, Nat.reduceLeDiff, Nat.reduceEqDiff, eq_self, Nat.zero_le, Nat.le_refl, not_false_eq_true, not_true_eq_false, true_and, and_true, and_self, if_true, if_false, p1.o10, cl26 h26, q_upS, q_upup, lx_up, c1, c2]
        exact hQ
