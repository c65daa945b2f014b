/-! the model: a pack, a twist told -/
theorem fgF_0 {M : mv_Mem} (h : tY M) {p : Nat} (hp : 200 ≤ p) : fgF (ly M) p = 0 := by
  by_cases c : fgF (ly M) p = 0
  · exact c
  · have := (fgY_end h c).1
    omega
/-- a pack's row, as the model reads it -/
def pmF (T : Nat → Nat) (nT : Nat) : Nat → Nat → Int32 → Nat × Nat × Int32
  | 0, p, x => (1, p, x)
  | n + 1, p, x => if fgF T p = 0 then (1, p, x) else if nT < fgF T p then (0, p, x) else if x >>> (nI (fgF T p - 1) &&& 31) &&& nI 1 = nI 1 then (0, p, x) else pmF T nT n (p + 1) (x ||| (nI 1 <<< (nI (fgF T p - 1) &&& 31)))
theorem pmF_01 (T : Nat → Nat) (nT : Nat) : ∀ n p x, (pmF T nT n p x).1 = 0 ∨ (pmF T nT n p x).1 = 1
  | 0, _, _ => Or.inr rfl
  | n + 1, p, x => by
    unfold pmF
    split
    · exact Or.inr rfl
    split
    · exact Or.inl rfl
    split
    · exact Or.inl rfl
    · exact pmF_01 T nT n _ _
theorem lp149 {S : Nat → mv_Sp} (h145 : S 145 = sp145) (h148 : S 148 = sp148) {sh : mv_Shp} {M : mv_Mem} {P : mv_Post} {nT : Nat} {T : Nat → Nat} (p1 : oM sh) (p2 : tY M) (hT : ly M = T) (hN : M 0 19 = nI nT) (hn6 : nT ≤ 6)
    (k0 : ∀ N, rdE M N → P (some (.int (nI 0))) sh N) :
    ∀ n p x z, p + n = 300 → p < 300 → ((pmF T nT n p x).1 = 1 → ∀ z, (pmF T nT n p x).2.1 < 300 → mr149 S P 70 [some (.ref 0), some (.int (pmF T nT n p x).2.2), z] [] sh (mv_up M 0 17 (nI (pmF T nT n p x).2.1)) 0 0) →
      mr149 S P 13 [some (.ref 0), some (.int x), z] [] sh (mv_up M 0 17 (nI p)) 0 0
  | 0, p, x, z, h, hp, k1 => absurd h (by omega)
  | n + 1, p, x, z, h, hp, k1 => by
    have t1 : tY (mv_up M 0 17 (nI p)) := tY0 p2 (by decide)
    have l1 : ly (mv_up M 0 17 (nI p)) = T := (fgY0 (Or.inl rfl)).trans hT
    have w := @fgY_end _ p2 p
    rw [hT] at w
    have f10 := fgF_le T p
    unfold pmF at k1
    rw [e149_13]
    by_cases c1 : fgF T p = 0
    · rw [if_pos c1] at k1
      simp (disch := first | assumption | omega) only [e149_0, e149_1, e149_4, e149_6, e149_9, e149_10, e149_11, e149_12, e149_14, e149_17, e149_20, e149_21, e149_24, e149_25, e149_28, e149_29, e149_31, e149_32, e149_33, e149_34, e149_35, e149_38, e149_41, e149_42, e149_43, e149_46, e149_49, e149_50, e149_51, e149_52, e149_53, e149_54, e149_55, e149_56, e149_57, e149_58, e149_58r, e149_59, e149_62, e149_63, e149_64, e149_67, e149_71, e149_74, e149_75, e149_78, e149_79, e149_80, e149_81, e149_81r, e149_82, e149_85, e149_86, e149_87, e149_90, e149_91, e149_94, e149_95, e149_98, e149_99, q_gv0, q_gvs, q_isI1, q_isA1, q_hs0, q_hsn, q_hsi, q_hsr, q_hss, q_inc1, List.set_cons_zero, List.set_cons_succ, ↓reduceIte, q_ss0, q_ssi, q_ssr, q_nr0, q_nr10, q_nr11, q_tlS, q_tlN, q_cl, q_let, q_lef, q_ltt, q_ltf, q_eqt, q_eqf, q_add, q_mul, Nat.reduceAdd, Nat.reduceLeDiff, Nat.reduceEqDiff, eq_self, Nat.zero_le, Nat.le_refl, not_false_eq_true, not_true_eq_false, true_and, and_true, and_self, if_true, if_false, p1.o, cr145 h145 p1 t1 l1 q_upS (show p < 1000 by omega), c1]
      exact k1 rfl _ hp
    obtain ⟨w1, w2, w3⟩ := w c1
    rw [if_neg c1] at k1
    have s1 : fgF T p + 47 - 48 = fgF T p - 1 := by omega
    by_cases c2 : nT < fgF T p
    · have c3 : nT ≤ fgF T p - 1 := by omega
      simp (disch := first | assumption | omega) only [e149_0, e149_1, e149_4, e149_6, e149_9, e149_10, e149_11, e149_12, e149_14, e149_17, e149_20, e149_21, e149_24, e149_25, e149_28, e149_29, e149_31, e149_32, e149_33, e149_34, e149_35, e149_38, e149_41, e149_42, e149_43, e149_46, e149_49, e149_50, e149_51, e149_52, e149_53, e149_54, e149_55, e149_56, e149_57, e149_58, e149_58r, e149_59, e149_62, e149_63, e149_64, e149_67, e149_71, e149_74, e149_75, e149_78, e149_79, e149_80, e149_81, e149_81r, e149_82, e149_85, e149_86, e149_87, e149_90, e149_91, e149_94, e149_95, e149_98, e149_99, q_gv0, q_gvs, q_isI1, q_isA1, q_hs0, q_hsn, q_hsi, q_hsr, q_hss, q_inc1, List.set_cons_zero, List.set_cons_succ, ↓reduceIte, q_ss0, q_ssi, q_ssr, q_nr0, q_nr10, q_nr11, q_tlS, q_tlN, q_cl, q_let, q_lef, q_ltt, q_ltf, q_eqt, q_eqf, q_add, q_mul, Nat.reduceAdd, Nat.reduceLeDiff, Nat.reduceEqDiff, eq_self, Nat.zero_le, Nat.le_refl, not_false_eq_true, not_true_eq_false, true_and, and_true, and_self, if_true, if_false, p1.o, p1.g12, p1.g17, p1.g19, p1.l7, cr145 h145 p1 t1 l1 q_upS (show p < 1000 by omega), c1, q_upS, q_upN, q_upO, w3, hN, q_sub, s1]
      exact k0 _ (rdE_0 rdE_r (by decide))
    rw [if_neg c2] at k1
    have b5 : fgF T p - 1 < 32 := by omega
    by_cases c3 : x >>> (nI (fgF T p - 1) &&& 31) &&& nI 1 = nI 1
    · simp (disch := first | assumption | omega) only [e149_0, e149_1, e149_4, e149_6, e149_9, e149_10, e149_11, e149_12, e149_14, e149_17, e149_20, e149_21, e149_24, e149_25, e149_28, e149_29, e149_31, e149_32, e149_33, e149_34, e149_35, e149_38, e149_41, e149_42, e149_43, e149_46, e149_49, e149_50, e149_51, e149_52, e149_53, e149_54, e149_55, e149_56, e149_57, e149_58, e149_58r, e149_59, e149_62, e149_63, e149_64, e149_67, e149_71, e149_74, e149_75, e149_78, e149_79, e149_80, e149_81, e149_81r, e149_82, e149_85, e149_86, e149_87, e149_90, e149_91, e149_94, e149_95, e149_98, e149_99, q_gv0, q_gvs, q_isI1, q_isA1, q_hs0, q_hsn, q_hsi, q_hsr, q_hss, q_inc1, List.set_cons_zero, List.set_cons_succ, ↓reduceIte, q_ss0, q_ssi, q_ssr, q_nr0, q_nr10, q_nr11, q_tlS, q_tlN, q_cl, q_let, q_lef, q_ltt, q_ltf, q_eqt, q_eqf, q_add, q_mul, Nat.reduceAdd, Nat.reduceLeDiff, Nat.reduceEqDiff, eq_self, Nat.zero_le, Nat.le_refl, not_false_eq_true, not_true_eq_false, true_and, and_true, and_self, if_true, if_false, p1.o, p1.g12, p1.g17, p1.g19, p1.l7, cr145 h145 p1 t1 l1 q_upS (show p < 1000 by omega), c1, q_upS, q_upN, q_upO, w3, hN, q_sub, s1, cl148 h148, c3]
      exact k0 _ (rdE_0 rdE_r (by decide))
    · rw [if_neg c3] at k1
      simp (disch := first | assumption | omega) only [e149_0, e149_1, e149_4, e149_6, e149_9, e149_10, e149_11, e149_12, e149_14, e149_17, e149_20, e149_21, e149_24, e149_25, e149_28, e149_29, e149_31, e149_32, e149_33, e149_34, e149_35, e149_38, e149_41, e149_42, e149_43, e149_46, e149_49, e149_50, e149_51, e149_52, e149_53, e149_54, e149_55, e149_56, e149_57, e149_58, e149_58r, e149_59, e149_62, e149_63, e149_64, e149_67, e149_71, e149_74, e149_75, e149_78, e149_79, e149_80, e149_81, e149_81r, e149_82, e149_85, e149_86, e149_87, e149_90, e149_91, e149_94, e149_95, e149_98, e149_99, e149_58r, q_gv0, q_gvs, q_isI1, q_isA1, q_hs0, q_hsn, q_hsi, q_hsr, q_hss, q_inc1, List.set_cons_zero, List.set_cons_succ, ↓reduceIte, q_ss0, q_ssi, q_ssr, q_nr0, q_nr10, q_nr11, q_tlS, q_tlN, q_cl, q_let, q_lef, q_ltt, q_ltf, q_eqt, q_eqf, q_add, q_mul, Nat.reduceAdd, Nat.reduceLeDiff, Nat.reduceEqDiff, eq_self, Nat.zero_le, Nat.le_refl, not_false_eq_true, not_true_eq_false, true_and, and_true, and_self, if_true, if_false, p1.o, p1.g12, p1.g17, p1.g19, p1.p17, p1.l7, cr145 h145 p1 t1 l1 q_upS (show p < 1000 by omega), c1, q_upS, q_upN, q_upO, w3, hN, q_sub, s1, cl148 h148, c3, q_upup]
      exact lp149 h145 h148 p1 p2 hT hN hn6 k0 n (p + 1) _ _ (by omega) (by omega) k1
theorem lp149k {S : Nat → mv_Sp} (h145 : S 145 = sp145) (h148 : S 148 = sp148) {sh : mv_Shp} {M : mv_Mem} {P : mv_Post} {nT : Nat} {T : Nat → Nat} (p1 : oM sh) (p2 : tY M) (hT : ly M = T) (hN : M 0 19 = nI nT) (hn6 : nT ≤ 6) :
    ∀ n p x z, p + n = 300 → p < 300 → (pmF T nT n p x).1 = 1 → (∀ z, (pmF T nT n p x).2.1 < 300 → mr149 S P 70 [some (.ref 0), some (.int (pmF T nT n p x).2.2), z] [] sh (mv_up M 0 17 (nI (pmF T nT n p x).2.1)) 0 0) →
      mr149 S P 13 [some (.ref 0), some (.int x), z] [] sh (mv_up M 0 17 (nI p)) 0 0
  | 0, p, x, z, h, hp, ko, k1 => absurd h (by omega)
  | n + 1, p, x, z, h, hp, ko, k1 => by
    have t1 : tY (mv_up M 0 17 (nI p)) := tY0 p2 (by decide)
    have l1 : ly (mv_up M 0 17 (nI p)) = T := (fgY0 (Or.inl rfl)).trans hT
    have w := @fgY_end _ p2 p
    rw [hT] at w
    have f10 := fgF_le T p
    unfold pmF at k1 ko
    rw [e149_13]
    by_cases c1 : fgF T p = 0
    · rw [if_pos c1] at k1 ko
      simp (disch := first | assumption | omega) only [e149_0, e149_1, e149_4, e149_6, e149_9, e149_10, e149_11, e149_12, e149_14, e149_17, e149_20, e149_21, e149_24, e149_25, e149_28, e149_29, e149_31, e149_32, e149_33, e149_34, e149_35, e149_38, e149_41, e149_42, e149_43, e149_46, e149_49, e149_50, e149_51, e149_52, e149_53, e149_54, e149_55, e149_56, e149_57, e149_58, e149_58r, e149_59, e149_62, e149_63, e149_64, e149_67, e149_71, e149_74, e149_75, e149_78, e149_79, e149_80, e149_81, e149_81r, e149_82, e149_85, e149_86, e149_87, e149_90, e149_91, e149_94, e149_95, e149_98, e149_99, q_gv0, q_gvs, q_isI1, q_isA1, q_hs0, q_hsn, q_hsi, q_hsr, q_hss, q_inc1, List.set_cons_zero, List.set_cons_succ, ↓reduceIte, q_ss0, q_ssi, q_ssr, q_nr0, q_nr10, q_nr11, q_tlS, q_tlN, q_cl, q_let, q_lef, q_ltt, q_ltf, q_eqt, q_eqf, q_add, q_mul, Nat.reduceAdd, Nat.reduceLeDiff, Nat.reduceEqDiff, eq_self, Nat.zero_le, Nat.le_refl, not_false_eq_true, not_true_eq_false, true_and, and_true, and_self, if_true, if_false, p1.o, cr145 h145 p1 t1 l1 q_upS (show p < 1000 by omega), c1]
      exact k1 _ hp
    obtain ⟨w1, w2, w3⟩ := w c1
    rw [if_neg c1] at k1 ko
    have s1 : fgF T p + 47 - 48 = fgF T p - 1 := by omega
    by_cases c2 : nT < fgF T p
    · rw [if_pos c2] at ko
      exact absurd (show (0 : Nat) = 1 from ko) (by decide)
    rw [if_neg c2] at k1 ko
    have b5 : fgF T p - 1 < 32 := by omega
    by_cases c3 : x >>> (nI (fgF T p - 1) &&& 31) &&& nI 1 = nI 1
    · rw [if_pos c3] at ko
      exact absurd (show (0 : Nat) = 1 from ko) (by decide)
    · rw [if_neg c3] at k1 ko
      simp (disch := first | assumption | omega) only [e149_0, e149_1, e149_4, e149_6, e149_9, e149_10, e149_11, e149_12, e149_14, e149_17, e149_20, e149_21, e149_24, e149_25, e149_28, e149_29, e149_31, e149_32, e149_33, e149_34, e149_35, e149_38, e149_41, e149_42, e149_43, e149_46, e149_49, e149_50, e149_51, e149_52, e149_53, e149_54, e149_55, e149_56, e149_57, e149_58, e149_58r, e149_59, e149_62, e149_63, e149_64, e149_67, e149_71, e149_74, e149_75, e149_78, e149_79, e149_80, e149_81, e149_81r, e149_82, e149_85, e149_86, e149_87, e149_90, e149_91, e149_94, e149_95, e149_98, e149_99, e149_58r, q_gv0, q_gvs, q_isI1, q_isA1, q_hs0, q_hsn, q_hsi, q_hsr, q_hss, q_inc1, List.set_cons_zero, List.set_cons_succ, ↓reduceIte, q_ss0, q_ssi, q_ssr, q_nr0, q_nr10, q_nr11, q_tlS, q_tlN, q_cl, q_let, q_lef, q_ltt, q_ltf, q_eqt, q_eqf, q_add, q_mul, Nat.reduceAdd, Nat.reduceLeDiff, Nat.reduceEqDiff, eq_self, Nat.zero_le, Nat.le_refl, not_false_eq_true, not_true_eq_false, true_and, and_true, and_self, if_true, if_false, p1.o, p1.g12, p1.g17, p1.g19, p1.p17, p1.l7, cr145 h145 p1 t1 l1 q_upS (show p < 1000 by omega), c1, q_upS, q_upN, q_upO, w3, hN, q_sub, s1, cl148 h148, c3, q_upup]
      exact lp149k h145 h148 p1 p2 hT hN hn6 n (p + 1) _ _ (by omega) (by omega) ko k1
def paE (M N : mv_Mem) (n : Nat) (x : Int32) : Prop := N 0 23 = nI (n + 1) ∧ N 0 19 = M 0 19 ∧ N 0 25 = M 0 25 ∧ N 0 26 = M 0 26 ∧ N 13 n = x ∧ (∀ t, ¬ t = n → N 13 t = M 13 t) ∧ N 10 = M 10 ∧ N 11 = M 11 ∧ N 12 = M 12 ∧ N 14 = M 14
def sp149 : mv_Sp := fun As sh M Q => ∃ p nT n, As = [.ref 0] ∧ oM sh ∧ tY M ∧ p < 202 ∧ M 0 17 = nI p ∧ nT ≤ 6 ∧ M 0 19 = nI nT ∧ n ≤ 6 ∧ M 0 23 = nI n ∧
  ((pmF (ly M) nT (300 - p) p (nI 0)).1 = 1 → ¬ (pmF (ly M) nT (300 - p) p (nI 0)).2.2 = nI 0 → ¬ n = 6 → ∀ N, rdE M N → (pmF (ly M) nT (300 - p) p (nI 0)).2.1 < 300 → N 0 17 = nI (pmF (ly M) nT (300 - p) p (nI 0)).2.1 → paE M N n (pmF (ly M) nT (300 - p) p (nI 0)).2.2 → Q (some (.int (nI 1))) sh N) ∧
  ((¬ (pmF (ly M) nT (300 - p) p (nI 0)).1 = 1 ∨ (pmF (ly M) nT (300 - p) p (nI 0)).2.2 = nI 0 ∨ n = 6) → ∀ N, rdE M N → Q (some (.int (nI 0))) sh N)
theorem ct149 {S : Nat → mv_Sp} (h145 : S 145 = sp145) (h148 : S 148 = sp148) : ∀ As sh M P, sp149 As sh M P → (mv_al0 As).length ≤ 3 ∧ mr149 S P 0 (mv_ent As 3) [] sh M 0 0 := by
  rintro As sh M P ⟨p, nT, n, rfl, p1, p2, hp, hP, hnT, hNT, hn, hN, hS, hF⟩
  refine ⟨Nat.le_of_ble_eq_true rfl, ?_⟩
  show mr149 S P 0 [some (.ref 0), none, none] [] sh M 0 0
  by_cases c0 : n = 6
  · subst c0
    simp (disch := first | assumption | omega) only [e149_0, e149_1, e149_4, e149_6, e149_9, e149_10, e149_11, e149_12, e149_13, e149_14, e149_17, e149_20, e149_21, e149_24, e149_25, e149_28, e149_29, e149_31, e149_32, e149_33, e149_34, e149_35, e149_38, e149_41, e149_42, e149_43, e149_46, e149_49, e149_50, e149_51, e149_52, e149_53, e149_54, e149_55, e149_56, e149_57, e149_58, e149_58r, e149_59, e149_62, e149_63, e149_64, e149_67, e149_70, e149_71, e149_74, e149_75, e149_78, e149_79, e149_80, e149_81, e149_81r, e149_82, e149_85, e149_86, e149_87, e149_90, e149_91, e149_94, e149_95, e149_98, e149_99, q_gv0, q_gvs, q_isI1, q_isA1, q_hs0, q_hsn, q_hsi, q_hsr, q_hss, q_inc1, List.set_cons_zero, List.set_cons_succ, ↓reduceIte, q_ss0, q_ssi, q_ssr, q_nr0, q_nr10, q_nr11, q_tlS, q_tlN, q_cl, q_let, q_lef, q_ltt, q_ltf, q_eqt, q_eqf, q_add, q_mul, Nat.reduceAdd, Nat.reduceLeDiff, Nat.reduceEqDiff, eq_self, Nat.zero_le, Nat.le_refl, not_false_eq_true, not_true_eq_false, true_and, and_true, and_self, if_true, if_false, p1.g23, hN]
    exact hF (Or.inr (Or.inr rfl)) M rdE_r
  simp (disch := first | assumption | omega) only [e149_0, e149_1, e149_4, e149_6, e149_9, e149_10, e149_11, e149_12, e149_14, e149_17, e149_20, e149_21, e149_24, e149_25, e149_28, e149_29, e149_31, e149_32, e149_33, e149_34, e149_35, e149_38, e149_41, e149_42, e149_43, e149_46, e149_49, e149_50, e149_51, e149_52, e149_53, e149_54, e149_55, e149_56, e149_57, e149_58, e149_58r, e149_59, e149_62, e149_63, e149_64, e149_67, e149_71, e149_74, e149_75, e149_78, e149_79, e149_80, e149_81, e149_81r, e149_82, e149_85, e149_86, e149_87, e149_90, e149_91, e149_94, e149_95, e149_98, e149_99, q_gv0, q_gvs, q_isI1, q_isA1, q_hs0, q_hsn, q_hsi, q_hsr, q_hss, q_inc1, List.set_cons_zero, List.set_cons_succ, ↓reduceIte, q_ss0, q_ssi, q_ssr, q_nr0, q_nr10, q_nr11, q_tlS, q_tlN, q_cl, q_let, q_lef, q_ltt, q_ltf, q_eqt, q_eqf, q_add, q_mul, Nat.reduceAdd, Nat.reduceLeDiff, Nat.reduceEqDiff, eq_self, Nat.zero_le, Nat.le_refl, not_false_eq_true, not_true_eq_false, true_and, and_true, and_self, if_true, if_false, p1.g23, hN]
  have z0 : M = mv_up M 0 17 (nI p) := (up_id hP).symm
  rcases pmF_01 (ly M) nT (300 - p) p (nI 0) with c1 | c1
  · have k0 : ∀ N, rdE M N → P (some (.int (nI 0))) sh N := hF (Or.inl (by rw [c1]; decide))
    rw [z0]
    refine lp149 h145 h148 p1 p2 rfl hNT hnT k0 (300 - p) p (nI 0) none (by omega) (by omega) (fun e => ?_)
    rw [c1] at e
    exact absurd e (by decide)
  · -- the failing roads are not taken, but they need an answer: by the two cases of the end
    by_cases c2 : (pmF (ly M) nT (300 - p) p (nI 0)).2.2 = nI 0
    · have k0 : ∀ N, rdE M N → P (some (.int (nI 0))) sh N := hF (Or.inr (Or.inl c2))
      rw [z0]
      refine lp149 h145 h148 p1 p2 rfl hNT hnT k0 (300 - p) p (nI 0) none (by omega) (by omega) (fun e z hq => ?_)
      rw [c2]
      simp (disch := first | assumption | omega) only [e149_0, e149_1, e149_4, e149_6, e149_9, e149_10, e149_11, e149_12, e149_14, e149_17, e149_20, e149_21, e149_24, e149_25, e149_28, e149_29, e149_31, e149_32, e149_33, e149_34, e149_35, e149_38, e149_41, e149_42, e149_43, e149_46, e149_49, e149_50, e149_51, e149_52, e149_53, e149_54, e149_55, e149_56, e149_57, e149_58, e149_58r, e149_59, e149_62, e149_63, e149_64, e149_67, e149_70, e149_71, e149_74, e149_75, e149_78, e149_79, e149_80, e149_81, e149_81r, e149_82, e149_85, e149_86, e149_87, e149_90, e149_91, e149_94, e149_95, e149_98, e149_99, e149_81r, q_gv0, q_gvs, q_isI1, q_isA1, q_hs0, q_hsn, q_hsi, q_hsr, q_hss, q_inc1, List.set_cons_zero, List.set_cons_succ, ↓reduceIte, q_ss0, q_ssi, q_ssr, q_nr0, q_nr10, q_nr11, q_tlS, q_tlN, q_cl, q_let, q_lef, q_ltt, q_ltf, q_eqt, q_eqf, q_add, q_mul, Nat.reduceAdd, Nat.reduceLeDiff, Nat.reduceEqDiff, eq_self, Nat.zero_le, Nat.le_refl, not_false_eq_true, not_true_eq_false, true_and, and_true, and_self, if_true, if_false, p1.g24, p1.g23, p1.p23, p1.s13, q_upN, q_upO, hN]
      exact k0 _ (rdE_0 (rdE_a (rdE_0 rdE_r (by decide)) (by decide)) (by decide))
    · have k1 := hS c1 c2 c0
      generalize hD : pmF (ly M) nT (300 - p) p (nI 0) = D at c1 c2 k1
      obtain ⟨d1, d2, d3⟩ := D
      dsimp only at c1 c2 k1
      subst c1
      rw [z0]
      refine lp149k h145 h148 p1 p2 rfl hNT hnT (300 - p) p (nI 0) none (by omega) (by omega) (by rw [hD]) (fun z hq => ?_)
      rw [hD] at hq ⊢
      dsimp only at hq ⊢
      have n6 : n < 6 := by omega
      simp (disch := first | assumption | omega) only [e149_0, e149_1, e149_4, e149_6, e149_9, e149_10, e149_11, e149_12, e149_14, e149_17, e149_20, e149_21, e149_24, e149_25, e149_28, e149_29, e149_31, e149_32, e149_33, e149_34, e149_35, e149_38, e149_41, e149_42, e149_43, e149_46, e149_49, e149_50, e149_51, e149_52, e149_53, e149_54, e149_55, e149_56, e149_57, e149_58, e149_58r, e149_59, e149_62, e149_63, e149_64, e149_67, e149_70, e149_71, e149_74, e149_75, e149_78, e149_79, e149_80, e149_81, e149_81r, e149_82, e149_85, e149_86, e149_87, e149_90, e149_91, e149_94, e149_95, e149_98, e149_99, e149_81r, q_gv0, q_gvs, q_isI1, q_isA1, q_hs0, q_hsn, q_hsi, q_hsr, q_hss, q_inc1, List.set_cons_zero, List.set_cons_succ, ↓reduceIte, q_ss0, q_ssi, q_ssr, q_nr0, q_nr10, q_nr11, q_tlS, q_tlN, q_cl, q_let, q_lef, q_ltt, q_ltf, q_eqt, q_eqf, q_add, q_mul, Nat.reduceAdd, Nat.reduceLeDiff, Nat.reduceEqDiff, eq_self, Nat.zero_le, Nat.le_refl, not_false_eq_true, not_true_eq_false, true_and, and_true, and_self, if_true, if_false, p1.g24, p1.g23, p1.p23, p1.s13, q_upN, q_upO, hN, c2]
      refine k1 _ (rdE_0 (rdE_a (rdE_0 rdE_r (by decide)) (by decide)) (by decide)) hq (by rw [q_upN (by decide), q_upO (by decide), q_upS]) ⟨q_upS, ?_, ?_, ?_, ?_, fun t ht => ?_, ?_, ?_, ?_, ?_⟩
      · rw [q_upN (by decide), q_upO (by decide), q_upN (by decide)]
      · rw [q_upN (by decide), q_upO (by decide), q_upN (by decide)]
      · rw [q_upN (by decide), q_upO (by decide), q_upN (by decide)]
      · rw [q_upO (by decide), q_upS]
      · rw [q_upO (by decide), q_upN (fun z => ht z.2), q_upO (by decide)]
      · rw [q_upO (by decide), q_upO (by decide), q_upO (by decide)]
      · rw [q_upO (by decide), q_upO (by decide), q_upO (by decide)]
      · rw [q_upO (by decide), q_upO (by decide), q_upO (by decide)]
      · rw [q_upO (by decide), q_upO (by decide), q_upO (by decide)]
/-- the twist told -/
def sp150 : mv_Sp := fun As sh M Q => ∃ p, As = [.ref 0] ∧ oM sh ∧ tY M ∧ p < 202 ∧ M 0 17 = nI p ∧ Q (some (.int (nI (if nbF (ly M) p < 2 then 0 else if 41 < nbF (ly M) p then 0 else 1)))) sh (mv_up (nuM M) 0 25 (nI (nbF (ly M) p - 1)))
theorem ct150 {S : Nat → mv_Sp} (h146 : S 146 = sp146) : ∀ As sh M P, sp150 As sh M P → (mv_al0 As).length ≤ 2 ∧ mr150 S P 0 (mv_ent As 2) [] sh M 0 0 := by
  rintro As sh M P ⟨p, rfl, p1, p2, hp, hP, hQ⟩
  refine ⟨Nat.le_of_ble_eq_true rfl, ?_⟩
  show mr150 S P 0 [some (.ref 0), none] [] sh M 0 0
  unfold nuM at hQ
  rw [hP, q_cl (show p < 2147483648 by omega)] at hQ
  have b2 : nbF (ly M) p ≤ 100 := nbF_le (ly M) p
  have e : (if nbF (ly M) p = 0 then 0 else inN (nI (nbF (ly M) p - 1)) (nI 1) (nI 40)) = if nbF (ly M) p < 2 then 0 else if 41 < nbF (ly M) p then 0 else 1 := by
    rw [inN_n (by omega) (by decide) (by decide)]
    by_cases c1 : nbF (ly M) p = 0
    · rw [if_pos c1, if_pos (by omega)]
    rw [if_neg c1]
    by_cases c2 : nbF (ly M) p < 2
    · rw [if_pos c2, if_pos (by omega)]
    rw [if_neg c2, if_neg (by omega)]
    by_cases c3 : 41 < nbF (ly M) p
    · rw [if_pos c3, if_pos (by omega)]
    · rw [if_neg c3, if_neg (by omega)]
  have hb : mv_nr 1 (nI (if nbF (ly M) p < 2 then 0 else if 41 < nbF (ly M) p then 0 else 1)) = True := by
    apply q_nrB
    split
    · exact Or.inl rfl
    split <;> simp
  simp (disch := first | assumption | omega) only [e150_0, e150_1, e150_2, e150_4, e150_7, e150_8, e150_9, e150_10, e150_13, e150_16, e150_17, q_gv0, q_gvs, q_isI1, q_isA1, q_hs0, q_hsn, q_hsi, q_hsr, q_hss, q_inc1, List.set_cons_zero, List.set_cons_succ, ↓reduceIte, q_ss0, q_ssi, q_ssr, q_nr0, q_nr10, q_nr11, q_tlS, q_tlN, q_cl, q_let, q_lef, q_ltt, q_ltf, q_eqt, q_eqf, q_add, q_mul, Nat.reduceAdd, Nat.reduceLeDiff, Nat.reduceEqDiff, eq_self, Nat.zero_le, Nat.le_refl, not_false_eq_true, not_true_eq_false, true_and, and_true, and_self, if_true, if_false, p1.o, p1.g18, p1.p25, cr146 h146 p1 p2 rfl hP (show p < 900 by omega), e, hb, q_upN, q_upS]
  exact hQ
