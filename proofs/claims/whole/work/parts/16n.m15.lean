/-! the model: jams, bands -/
def jmA (w9 : Nat) : Nat → Nat → mv_Mem → Nat → Nat × mv_Mem
  | 0, _, M, j => (j, M)
  | n + 1, k, M, j => jmA w9 n (k + 1) (trY M 8789 ((M 6 k).toNatClampNeg / 10) ((M 6 k).toNatClampNeg % 10) (M 0 3).toNatClampNeg) (j + tjY M 8789 ((M 6 k).toNatClampNeg / 10) ((M 6 k).toNatClampNeg % 10) (M 0 3).toNatClampNeg)
def jmB (K : Nat) : Nat → Nat → mv_Mem → Int32 × mv_Mem
  | 0, _, M => (Int32.ofInt (-4), M)
  | n + 1, t, M => if 0 < (jmA 0 K 0 M 0).1 then (nI t, (jmA 0 K 0 M 0).2) else jmB K n (t + 1) (jmA 0 K 0 M 0).2
theorem tjY_le (M : mv_Mem) (b p w : Nat) : ∀ t, tjY M b p w t ≤ t
  | 0 => Nat.le_refl _
  | t + 1 => by
    have := tjY_le M b p w t
    unfold tjY
    split <;> omega
theorem lp195i {S : Nat → mv_Sp} (h161 : S 161 = sp161) {sh : mv_Shp} {P : mv_Post} {nK t : Nat} (p1 : oM sh) (hK8 : nK ≤ 8) :
    ∀ n k (M : mv_Mem) j, k + n = nK → gM M → cY M 8789 → M 0 10 = nI nK → j ≤ 6 * k →
      (∀ z, gM (jmA 0 n k M j).2 → cY (jmA 0 n k M j).2 8789 → (jmA 0 n k M j).2 0 10 = nI nK → (jmA 0 n k M j).1 ≤ 48 → mr195 S P 62 [some (.ref 0), some (.int (nI t)), some (.int (nI (jmA 0 n k M j).1)), z] [] sh (jmA 0 n k M j).2 0 0) →
      mr195 S P 20 [some (.ref 0), some (.int (nI t)), some (.int (nI j)), some (.int (nI k))] [] sh M 0 0
  | 0, k, M, j, h, hG, hC, hK, hj, k1 => by
    obtain rfl : k = nK := by omega
    rw [e195_20]
    simp (disch := first | assumption | omega) only [e195_0, e195_1, e195_2, e195_5, e195_8, e195_9, e195_10, e195_11, e195_13, e195_16, e195_17, e195_18, e195_19, e195_21, e195_22, e195_25, e195_28, e195_29, e195_30, e195_33, e195_34, e195_37, e195_38, e195_39, e195_41, e195_42, e195_43, e195_46, e195_47, e195_48, e195_50, e195_51, e195_54, e195_55, e195_56, e195_59, e195_63, e195_66, e195_67, e195_68, e195_71, e195_74, e195_76, q_gv0, q_gvs, q_isI1, q_isA1, q_hs0, q_hsn, q_hsi, q_hsr, q_hss, q_inc1, List.set_cons_zero, List.set_cons_succ, ↓reduceIte, q_ss0, q_ssi, q_ssr, q_nr0, q_nr10, q_nr11, q_tlS, q_tlN, q_cl, q_let, q_lef, q_ltt, q_ltf, q_eqt, q_eqf, q_add, q_mul, Nat.reduceAdd, Nat.reduceLeDiff, Nat.reduceEqDiff, eq_self, Nat.zero_le, Nat.le_refl, not_false_eq_true, not_true_eq_false, true_and, and_true, and_self, if_true, if_false, p1.g10, hK]
    exact k1 _ hG hC hK (by show j ≤ 48; omega)
  | n + 1, k, M, j, h, hG, hC, hK, hj, k1 => by
    obtain ⟨q, w, hq, hw, hV, d1, d2⟩ := gMd hG (k := k) (by rw [hK, q_cl (by omega)]; omega)
    have d3 : (10 * q + w) / 10 = q := dv10 hw
    have d4 : (10 * q + w) % 10 = w := md10 hw
    have l0 : 8789 + 799 ≤ 9588 := by decide
    have b1 := tjY_le M 8789 q w (M 0 3).toNatClampNeg
    have b2 := gM6 hG
    unfold jmA at k1
    rw [d1, d2] at k1
    rw [e195_20]
    simp (disch := first | assumption | omega) only [e195_0, e195_1, e195_2, e195_5, e195_8, e195_9, e195_10, e195_11, e195_13, e195_16, e195_17, e195_18, e195_19, e195_21, e195_22, e195_25, e195_28, e195_29, e195_30, e195_33, e195_34, e195_37, e195_38, e195_39, e195_41, e195_42, e195_43, e195_46, e195_47, e195_48, e195_50, e195_51, e195_54, e195_55, e195_56, e195_59, e195_63, e195_66, e195_67, e195_68, e195_71, e195_74, e195_76, q_gv0, q_gvs, q_isI1, q_isA1, q_hs0, q_hsn, q_hsi, q_hsr, q_hss, q_inc1, List.set_cons_zero, List.set_cons_succ, ↓reduceIte, q_ss0, q_ssi, q_ssr, q_nr0, q_nr10, q_nr11, q_tlS, q_tlN, q_cl, q_let, q_lef, q_ltt, q_ltf, q_eqt, q_eqf, q_add, q_mul, Nat.reduceAdd, Nat.reduceLeDiff, Nat.reduceEqDiff, eq_self, Nat.zero_le, Nat.le_refl, not_false_eq_true, not_true_eq_false, true_and, and_true, and_self, if_true, if_false, p1.o, p1.g10, p1.g11, p1.l6, hK, hV, q_div, q_rem, d3, d4, cl161 h161]
    exact lp195i h161 p1 hK8 n (k + 1) _ _ (by omega) (gM_trY hG) (cY_tr hw hG hC _ (Nat.le_refl _)) (by rw [trY_out (by decide)]; exact hK) (by omega) k1
theorem lp195o {S : Nat → mv_Sp} (h161 : S 161 = sp161) {sh : mv_Shp} {P : mv_Post} {nK : Nat} (p1 : oM sh) (hK8 : nK ≤ 8) :
    ∀ n t (M : mv_Mem) y z, t + n = 61 → gM M → cY M 8789 → M 0 10 = nI nK → P (some (.int (jmB nK n t M).1)) sh (jmB nK n t M).2 →
      mr195 S P 10 [some (.ref 0), some (.int (nI t)), y, z] [] sh M 0 0
  | 0, t, M, y, z, h, hG, hC, hK, hQ => by
    obtain rfl : t = 61 := by omega
    rw [e195_10]
    simp (disch := first | assumption | omega) only [e195_0, e195_1, e195_2, e195_5, e195_8, e195_9, e195_11, e195_13, e195_16, e195_17, e195_18, e195_19, e195_21, e195_22, e195_25, e195_28, e195_29, e195_30, e195_33, e195_34, e195_37, e195_38, e195_39, e195_41, e195_42, e195_43, e195_46, e195_47, e195_48, e195_50, e195_51, e195_54, e195_55, e195_56, e195_59, e195_63, e195_66, e195_67, e195_68, e195_71, e195_74, e195_76, e195_62, q_gv0, q_gvs, q_isI1, q_isA1, q_hs0, q_hsn, q_hsi, q_hsr, q_hss, q_inc1, List.set_cons_zero, List.set_cons_succ, ↓reduceIte, q_ss0, q_ssi, q_ssr, q_nr0, q_nr10, q_nr11, q_tlS, q_tlN, q_cl, q_let, q_lef, q_ltt, q_ltf, q_eqt, q_eqf, q_add, q_mul, Nat.reduceAdd, Nat.reduceLeDiff, Nat.reduceEqDiff, eq_self, Nat.zero_le, Nat.le_refl, not_false_eq_true, not_true_eq_false, true_and, and_true, and_self, if_true, if_false]
    exact hQ
  | n + 1, t, M, y, z, h, hG, hC, hK, hQ => by
    unfold jmB at hQ
    rw [e195_10]
    simp (disch := first | assumption | omega) only [e195_0, e195_1, e195_2, e195_5, e195_8, e195_9, e195_11, e195_13, e195_16, e195_17, e195_18, e195_19, e195_21, e195_22, e195_25, e195_28, e195_29, e195_30, e195_33, e195_34, e195_37, e195_38, e195_39, e195_41, e195_42, e195_43, e195_46, e195_47, e195_48, e195_50, e195_51, e195_54, e195_55, e195_56, e195_59, e195_63, e195_66, e195_67, e195_68, e195_71, e195_74, e195_76, q_gv0, q_gvs, q_isI1, q_isA1, q_hs0, q_hsn, q_hsi, q_hsr, q_hss, q_inc1, List.set_cons_zero, List.set_cons_succ, ↓reduceIte, q_ss0, q_ssi, q_ssr, q_nr0, q_nr10, q_nr11, q_tlS, q_tlN, q_cl, q_let, q_lef, q_ltt, q_ltf, q_eqt, q_eqf, q_add, q_mul, Nat.reduceAdd, Nat.reduceLeDiff, Nat.reduceEqDiff, eq_self, Nat.zero_le, Nat.le_refl, not_false_eq_true, not_true_eq_false, true_and, and_true, and_self, if_true, if_false]
    refine lp195i h161 p1 hK8 nK 0 M 0 (by omega) hG hC hK (by omega) (fun z g c k hb => ?_)
    by_cases e : 0 < (jmA 0 nK 0 M 0).1
    · rw [if_pos e] at hQ
      simp (disch := first | assumption | omega) only [e195_62, e195_63, e195_66, e195_67, q_gv0, q_gvs, q_isI1, q_isA1, q_hs0, q_hsn, q_hsi, q_hsr, q_hss, q_inc1, List.set_cons_zero, List.set_cons_succ, ↓reduceIte, q_ss0, q_ssi, q_ssr, q_nr0, q_nr10, q_nr11, q_tlS, q_tlN, q_cl, q_let, q_lef, q_ltt, q_ltf, q_eqt, q_eqf, q_add, q_mul, Nat.reduceAdd, Nat.reduceLeDiff, Nat.reduceEqDiff, eq_self, Nat.zero_le, Nat.le_refl, not_false_eq_true, not_true_eq_false, true_and, and_true, and_self, if_true, if_false]
      exact hQ
    · rw [if_neg e] at hQ
      have e0 : (jmA 0 nK 0 M 0).1 = 0 := by omega
      rw [e0]
      simp (disch := first | assumption | omega) only [e195_62, e195_63, e195_68, e195_71, q_gv0, q_gvs, q_isI1, q_isA1, q_hs0, q_hsn, q_hsi, q_hsr, q_hss, q_inc1, List.set_cons_zero, List.set_cons_succ, ↓reduceIte, q_ss0, q_ssi, q_ssr, q_nr0, q_nr10, q_nr11, q_tlS, q_tlN, q_cl, q_let, q_lef, q_ltt, q_ltf, q_eqt, q_eqf, q_add, q_mul, Nat.reduceAdd, Nat.reduceLeDiff, Nat.reduceEqDiff, eq_self, Nat.zero_le, Nat.le_refl, not_false_eq_true, not_true_eq_false, true_and, and_true, and_self, if_true, if_false]
      exact lp195o h161 p1 hK8 n (t + 1) _ _ _ (by omega) g c k hQ
def jmY (M : mv_Mem) : Int32 × mv_Mem := jmB (M 0 10).toNatClampNeg 60 1 (cpY M 0 8789 799)
theorem gM_cpY {M : mv_Mem} {f d n : Nat} (h : gM M) : gM (cpY M f d n) := gM_of h (by rw [cpY_out (by decide)]) (by rw [cpY_out (by decide)]) (by rw [cpY_out (by decide)]) (by rw [cpY_out (by decide)]) (cpY_out (by decide)) (cpY_out (by decide)) (cpY_out (by decide)) (cpY_out (by decide))
theorem cY_cpY {M : mv_Mem} {f d : Nat} (hG : gM M) (h : cY M f) : cY (cpY M f d 799) d := by
  intro t ht
  rw [cpY_out (by decide)] at ht
  have t6 : t < 6 := Nat.lt_of_lt_of_le ht (gM6 hG)
  have e : ∀ k, k < 799 → cpY M f d 799 1 (d + k) = M 1 (f + k) := fun k hk => cpY_in hk
  rw [Nat.add_assoc d, Nat.add_assoc d, Nat.add_assoc d, e _ (by omega), e _ (by omega), e _ (by omega), ← Nat.add_assoc f, ← Nat.add_assoc f, ← Nat.add_assoc f]
  exact h t ht
def sp195 : mv_Sp := fun As sh M Q => As = [.ref 0] ∧ ((oM sh) ∧ (gM M) ∧ (cY M 0)) ∧ Q (some (.int (jmY M).1)) (sh) ((jmY M).2)
theorem cl195 {S : Nat → mv_Sp} (hS : S 195 = sp195) {sh : mv_Shp} {M : mv_Mem}  (p1 : oM sh) (p2 : gM M) (p3 : cY M 0) {K : mv_Kt} {pc : Nat} {L : mv_Loc} {st : List Value} {cc_ ss_ : Nat} : mv_kal S 195 [.ref 0] sh M K pc L st cc_ ss_ = K pc L ((some (.int (jmY M).1) : Option Value).toList ++ st) (sh) ((jmY M).2) cc_ ss_ := by
  refine q_kal (fun F => q_cali (fun Q => ?_))
  rw [hS]
  constructor
  · rintro ⟨hE, ⟨zp1, zp2, zp3⟩, hQ⟩
    exact hQ
  · intro hQ
    exact ⟨rfl, ⟨p1, p2, p3⟩, hQ⟩
theorem ct195 {S : Nat → mv_Sp} (h156 : S 156 = sp156) (h161 : S 161 = sp161) : ∀ As sh M P, sp195 As sh M P → (mv_al0 As).length ≤ 4 ∧ mr195 S P 0 (mv_ent As 4) [] sh M 0 0 := by
  rintro As sh M P ⟨rfl, ⟨p1, p2, p3⟩, hQ⟩
  refine ⟨Nat.le_of_ble_eq_true rfl, ?_⟩
  show mr195 S P 0 [some (.ref 0), none, none, none] [] sh M 0 0
  obtain ⟨nK, hK8, hK⟩ := id p2.2.2.2.1
  unfold jmY at hQ
  rw [hK, q_cl (by omega)] at hQ
  have l1 : 0 + 799 ≤ 9588 := by decide
  have l2 : 8789 + 799 ≤ 9588 := by decide
  have l3 : 0 + 799 ≤ 8789 ∨ 8789 ≤ 0 := by decide
  simp (disch := first | assumption | omega) only [e195_0, e195_1, e195_2, e195_5, e195_8, e195_9, e195_11, e195_13, e195_16, e195_17, e195_18, e195_19, e195_21, e195_22, e195_25, e195_28, e195_29, e195_30, e195_33, e195_34, e195_37, e195_38, e195_39, e195_41, e195_42, e195_43, e195_46, e195_47, e195_48, e195_50, e195_51, e195_54, e195_55, e195_56, e195_59, e195_63, e195_66, e195_67, e195_68, e195_71, e195_74, e195_76, q_gv0, q_gvs, q_isI1, q_isA1, q_hs0, q_hsn, q_hsi, q_hsr, q_hss, q_inc1, List.set_cons_zero, List.set_cons_succ, ↓reduceIte, q_ss0, q_ssi, q_ssr, q_nr0, q_nr10, q_nr11, q_tlS, q_tlN, q_cl, q_let, q_lef, q_ltt, q_ltf, q_eqt, q_eqf, q_add, q_mul, Nat.reduceAdd, Nat.reduceLeDiff, Nat.reduceEqDiff, eq_self, Nat.zero_le, Nat.le_refl, not_false_eq_true, not_true_eq_false, true_and, and_true, and_self, if_true, if_false, p1.o, cl156 h156]
  exact lp195o h161 p1 hK8 60 1 _ none none rfl (gM_cpY p2) (cY_cpY p2 p3) (by rw [cpY_out (by decide)]; exact hK) hQ
/-- bands by draws, from the k-th on: woven, jams, the memory -/
def bdY (z : Nat) : Nat → Nat → mv_Mem → Nat → Nat → Nat × Nat × mv_Mem
  | 0, _, M, w, j => (w, j, M)
  | n + 1, k, M, w, j => if drN z k % 8 = 7 then bdY z n (k + 1) (mv_up M 1 8819 (nI 0)) w j else if drN z k % 8 = 6 then bdY z n (k + 1) (mv_up M 1 (8801 + drN z k / 8 % (M 0 3).toNatClampNeg) (nI 0)) w j
    else if (M 1 8819).toNatClampNeg < 24 then bdY z n (k + 1) (wvY M 8789 (drN z k / 8 % (M 0 7).toNatClampNeg) (drN z k / 64 % 2)) (w + 1) (j + tjY (wvA M 8789) 8789 (drN z k / 8 % (M 0 7).toNatClampNeg) (drN z k / 64 % 2) (M 0 3).toNatClampNeg)
    else bdY z n (k + 1) M w j
theorem cY_up0 {M : mv_Mem} {b j : Nat} {v : Int32} (hG : gM M) (h : cY M b) (hj : j < b ∨ b + 30 ≤ j) : cY (mv_up M 1 j v) b :=
  cY_of (gM6 hG) h (by rw [q_upO (by decide)]) (fun i h1 h2 => q_upN (by omega))
theorem gM_up1 {M : mv_Mem} {j : Nat} {v : Int32} (h : gM M) : gM (mv_up M 1 j v) := gM_of h (by rw [q_upO (by decide)]) (by rw [q_upO (by decide)]) (by rw [q_upO (by decide)]) (by rw [q_upO (by decide)]) (q_upO (by decide)) (q_upO (by decide)) (q_upO (by decide)) (q_upO (by decide))
theorem cY_comb {M : mv_Mem} {b t : Nat} (hG : gM M) (h : cY M b) (ht : t < 6) : cY (mv_up M 1 (b + 12 + t) (nI 0)) b := by
  intro i hi
  rw [q_upO (by decide)] at hi
  have := h i hi
  have i6 : i < 6 := Nat.lt_of_lt_of_le hi (gM6 hG)
  refine ⟨?_, ?_, ?_⟩
  · rw [q_upN (by omega)]; exact this.1
  · by_cases z : i = t
    · subst z
      rw [q_upS]
      exact ⟨40, by decide, by decide⟩
    · rw [q_upN (by omega)]; exact this.2.1
  · rw [q_upN (by omega)]; exact this.2.2
theorem lp174 {S : Nat → mv_Sp} (h165 : S 165 = sp165) {sh : mv_Shp} {P : mv_Post} {z N nT nP : Nat} {y : Int32} (p1 : oM sh) (hz : z < 10000) (hN : N < 61) (hT0 : 0 < nT) (hT6 : nT ≤ 6) (hP0 : 0 < nP) (hP6 : nP ≤ 6) :
    ∀ n k (M : mv_Mem) w j x1 x2 x3 x4, k + n = N → gM M → cY M 8789 → M 0 3 = nI nT → M 0 7 = nI nP → (∃ r, r < 25 ∧ M 1 8819 = nI r) → (x1 = none ∨ ∃ l, x1 = some (.long l)) → P (some (.int (if y = nI 0 then nI (bdY z n k M w j).1 else nI (bdY z n k M w j).2.1))) sh (bdY z n k M w j).2.2 →
      mr174 S P 53 [some (.ref 0), some (.int (nI z)), some (.int (nI N)), some (.int y), some (.int (nI w)), some (.int (nI j)), some (.int (nI k)), x1, x2, x3, x4] [] sh M 0 0
  | 0, k, M, w, j, x1, x2, x3, x4, h, hG, hC, hT, hP, hR, hx, hQ => by
    obtain rfl : k = N := by omega
    rw [e174_53]
    by_cases c : y = nI 0
    · rw [if_pos c] at hQ
      simp (disch := first | assumption | omega) only [e174_55, e174_56, e174_196, e174_197, e174_200, e174_202, e174_207, q_gv0, q_gvs, q_isI1, q_isA1, q_hs0, q_hsn, q_hsi, q_hsr, q_hss, q_inc1, List.set_cons_zero, List.set_cons_succ, ↓reduceIte, q_ss0, q_ssi, q_ssr, q_nr0, q_nr10, q_nr11, q_tlS, q_tlN, q_cl, q_let, q_lef, q_ltt, q_ltf, q_eqt, q_eqf, q_add, q_mul, Nat.reduceAdd, Nat.reduceLeDiff, Nat.reduceEqDiff, eq_self, Nat.zero_le, Nat.le_refl, not_false_eq_true, not_true_eq_false, true_and, and_true, and_self, if_true, if_false, c]
      exact hQ
    · rw [if_neg c] at hQ
      simp (disch := first | assumption | omega) only [e174_55, e174_56, e174_196, e174_197, e174_205, e174_207, q_gv0, q_gvs, q_isI1, q_isA1, q_hs0, q_hsn, q_hsi, q_hsr, q_hss, q_inc1, List.set_cons_zero, List.set_cons_succ, ↓reduceIte, q_ss0, q_ssi, q_ssr, q_nr0, q_nr10, q_nr11, q_tlS, q_tlN, q_cl, q_let, q_lef, q_ltt, q_ltf, q_eqt, q_eqf, q_add, q_mul, Nat.reduceAdd, Nat.reduceLeDiff, Nat.reduceEqDiff, eq_self, Nat.zero_le, Nat.le_refl, not_false_eq_true, not_true_eq_false, true_and, and_true, and_self, if_true, if_false, c]
      exact hQ
  | n + 1, k, M, w, j, x1, x2, x3, x4, h, hG, hC, hT, hP, hR, hx, hQ => by
    have k60 : k < 60 := by omega
    have hX := drX_lt hz k60
    have hd := drN_lt z k
    have hd2 : drN z k < 2147483648 := by omega
    have e1 : lN 7919 * lN z + lN 6151 * lN k + lN 1 = lN (drX z k) := by rw [lN_mul, lN_mul, lN_add, lN_add]; rfl
    have hxx : drX z k * drX z k < 9223372036854775808 := by
      have := Nat.mul_le_mul (Nat.le_of_lt hX) (Nat.le_of_lt hX)
      omega
    have e2 : lN (drX z k) * lN (drX z k) = lN (drX z k * drX z k) := lN_mul _ _
    have e3 : lN (drX z k * drX z k % 65521) = lN (drN z k) := rfl
    have hm : q_hm [some (.ref 0), some (.int (nI z)), some (.int (nI N)), some (.int y), some (.int (nI w)), some (.int (nI j)), some (.int (nI k)), x1, x2, x3, x4] 7 = True := eq_true ⟨by simp, fun j' w' hj' => by
      obtain rfl : j' = 6 := by omega
      simp⟩
    have hh9 : ∀ {v : Value} {x : Option Value}, q_hs [some (.ref 0), some (.int (nI z)), some (.int (nI N)), some (.int y), some (.int (nI w)), some (.int (nI j)), some (.int (nI k)), some (.long (lN (drX z k))), none, x3, x4] 9 = True := fun {v x} => by
      simp only [q_hss, q_hsn]
      rcases x3 with _ | v3 <;> first | rfl | exact q_hs0
    obtain ⟨r, hr, hR2⟩ := id hR
    unfold bdY at hQ
    rw [hR2, hT, hP, q_cl (show r < 2147483648 by omega), q_cl (show nT < 2147483648 by omega), q_cl (show nP < 2147483648 by omega)] at hQ
    have h9 : q_hs [some (.ref 0), some (.int (nI z)), some (.int (nI N)), some (.int y), some (.int (nI w)), some (.int (nI j)), some (.int (nI k)), some (.long (lN (drX z k))), none, x3, x4] 9 = True := hh9 (v := .null) (x := none)
    have m1 : drN z k / 8 % nT < nT := Nat.mod_lt _ hT0
    have m2 : drN z k / 8 % nP < nP := Nat.mod_lt _ hP0
    have m3 : drN z k / 64 % 2 < 2 := Nat.mod_lt _ (by decide)
    have d0 : drN z k / 8 < 2147483648 := by omega
    have d1 : drN z k / 64 < 2147483648 := by omega
    have nT0 : ¬ nT = 0 := by omega
    have nP0 : ¬ nP = 0 := by omega
    rw [e174_53]
    by_cases c1 : drN z k % 8 = 7
    · rw [if_pos c1] at hQ
      simp (disch := first | assumption | omega) only [e174_0, e174_1, e174_2, e174_3, e174_6, e174_9, e174_12, e174_13, e174_14, e174_15, e174_18, e174_21, e174_24, e174_25, e174_26, e174_27, e174_28, e174_31, e174_34, e174_35, e174_36, e174_37, e174_38, e174_41, e174_44, e174_45, e174_47, e174_48, e174_50, e174_51, e174_55, e174_56, e174_59, e174_62, e174_63, e174_64, e174_65, e174_68, e174_70, e174_71, e174_72, e174_73, e174_74, e174_75, e174_77, e174_79, e174_81, e174_82, e174_85, e174_86, e174_87, e174_89, e174_91, e174_93, e174_94, e174_96, e174_98, e174_100, e174_101, e174_103, e174_106, e174_107, e174_110, e174_113, e174_114, e174_115, e174_118, e174_120, e174_122, e174_123, e174_125, e174_128, e174_129, e174_132, e174_135, e174_137, e174_138, e174_141, e174_142, e174_143, e174_144, e174_145, e174_148, e174_149, e174_152, e174_155, e174_156, e174_158, e174_161, e174_163, e174_164, e174_167, e174_169, e174_170, e174_173, e174_174, e174_176, e174_178, e174_179, e174_180, e174_181, e174_184, e174_185, e174_187, e174_190, e174_193, e174_196, e174_197, e174_200, e174_202, e174_205, e174_207, q_gv0, q_gvs, q_isI1, q_isA1, q_hs0, q_hsn, q_hsi, q_hsr, q_hss, q_inc1, List.set_cons_zero, List.set_cons_succ, ↓reduceIte, q_ss0, q_ssi, q_ssr, q_nr0, q_nr10, q_nr11, q_tlS, q_tlN, q_cl, q_let, q_lef, q_ltt, q_ltf, q_eqt, q_eqf, q_add, q_mul, Nat.reduceAdd, Nat.reduceLeDiff, Nat.reduceEqDiff, eq_self, Nat.zero_le, Nat.le_refl, not_false_eq_true, not_true_eq_false, true_and, and_true, and_self, if_true, if_false, q_isL1, q_i2l, e1, hm, h9, e2, q_rlN, q_leqf, e3, lN_i, q_div, q_rem, p1.g0, p1.s1, c1]
      exact lp174 h165 p1 hz hN hT0 hT6 hP0 hP6 n (k + 1) _ w j _ _ _ _ (by omega) (gM_up1 hG) (cY_up0 hG hC (by omega)) (by rw [q_upO (by decide)]; exact hT) (by rw [q_upO (by decide)]; exact hP) ⟨0, by decide, q_upS⟩ (Or.inr ⟨_, rfl⟩) hQ
    rw [if_neg c1] at hQ
    by_cases c2 : drN z k % 8 = 6
    · rw [if_pos c2] at hQ
      simp (disch := first | assumption | omega) only [e174_0, e174_1, e174_2, e174_3, e174_6, e174_9, e174_12, e174_13, e174_14, e174_15, e174_18, e174_21, e174_24, e174_25, e174_26, e174_27, e174_28, e174_31, e174_34, e174_35, e174_36, e174_37, e174_38, e174_41, e174_44, e174_45, e174_47, e174_48, e174_50, e174_51, e174_55, e174_56, e174_59, e174_62, e174_63, e174_64, e174_65, e174_68, e174_70, e174_71, e174_72, e174_73, e174_74, e174_75, e174_77, e174_79, e174_81, e174_82, e174_85, e174_86, e174_87, e174_89, e174_91, e174_93, e174_94, e174_96, e174_98, e174_100, e174_101, e174_103, e174_106, e174_107, e174_110, e174_113, e174_114, e174_115, e174_118, e174_120, e174_122, e174_123, e174_125, e174_128, e174_129, e174_132, e174_135, e174_137, e174_138, e174_141, e174_142, e174_143, e174_144, e174_145, e174_148, e174_149, e174_152, e174_155, e174_156, e174_158, e174_161, e174_163, e174_164, e174_167, e174_169, e174_170, e174_173, e174_174, e174_176, e174_178, e174_179, e174_180, e174_181, e174_184, e174_185, e174_187, e174_190, e174_193, e174_196, e174_197, e174_200, e174_202, e174_205, e174_207, q_gv0, q_gvs, q_isI1, q_isA1, q_hs0, q_hsn, q_hsi, q_hsr, q_hss, q_inc1, List.set_cons_zero, List.set_cons_succ, ↓reduceIte, q_ss0, q_ssi, q_ssr, q_nr0, q_nr10, q_nr11, q_tlS, q_tlN, q_cl, q_let, q_lef, q_ltt, q_ltf, q_eqt, q_eqf, q_add, q_mul, Nat.reduceAdd, Nat.reduceLeDiff, Nat.reduceEqDiff, eq_self, Nat.zero_le, Nat.le_refl, not_false_eq_true, not_true_eq_false, true_and, and_true, and_self, if_true, if_false, q_isL1, q_i2l, e1, hm, h9, e2, q_rlN, q_leqf, e3, lN_i, q_div, q_rem, p1.g0, p1.g3, p1.s1, hT, c2]
      exact lp174 h165 p1 hz hN hT0 hT6 hP0 hP6 n (k + 1) _ w j _ _ _ _ (by omega) (gM_up1 hG) (cY_comb hG hC (by omega)) (by rw [q_upO (by decide)]; exact hT) (by rw [q_upO (by decide)]; exact hP) ⟨r, hr, by rw [q_upN (by omega)]; exact hR2⟩ (Or.inr ⟨_, rfl⟩) hQ
    rw [if_neg c2] at hQ
    by_cases c3 : r < 24
    · rw [if_pos c3] at hQ
      have r24 : ∃ r, r < 24 ∧ M 1 (8789 + 30) = nI r := ⟨r, c3, hR2⟩
      have l0 : 8789 + 799 ≤ 9588 := by decide
      have p6 : drN z k / 8 % nP < 6 := by omega
      have hT3 : (M 0 3).toNatClampNeg = nT := by rw [hT, q_cl (by omega)]
      simp (disch := first | assumption | omega) only [e174_0, e174_1, e174_2, e174_3, e174_6, e174_9, e174_12, e174_13, e174_14, e174_15, e174_18, e174_21, e174_24, e174_25, e174_26, e174_27, e174_28, e174_31, e174_34, e174_35, e174_36, e174_37, e174_38, e174_41, e174_44, e174_45, e174_47, e174_48, e174_50, e174_51, e174_55, e174_56, e174_59, e174_62, e174_63, e174_64, e174_65, e174_68, e174_70, e174_71, e174_72, e174_73, e174_74, e174_75, e174_77, e174_79, e174_81, e174_82, e174_85, e174_86, e174_87, e174_89, e174_91, e174_93, e174_94, e174_96, e174_98, e174_100, e174_101, e174_103, e174_106, e174_107, e174_110, e174_113, e174_114, e174_115, e174_118, e174_120, e174_122, e174_123, e174_125, e174_128, e174_129, e174_132, e174_135, e174_137, e174_138, e174_141, e174_142, e174_143, e174_144, e174_145, e174_148, e174_149, e174_152, e174_155, e174_156, e174_158, e174_161, e174_163, e174_164, e174_167, e174_169, e174_170, e174_173, e174_174, e174_176, e174_178, e174_179, e174_180, e174_181, e174_184, e174_185, e174_187, e174_190, e174_193, e174_196, e174_197, e174_200, e174_202, e174_205, e174_207, q_gv0, q_gvs, q_isI1, q_isA1, q_hs0, q_hsn, q_hsi, q_hsr, q_hss, q_inc1, List.set_cons_zero, List.set_cons_succ, ↓reduceIte, q_ss0, q_ssi, q_ssr, q_nr0, q_nr10, q_nr11, q_tlS, q_tlN, q_cl, q_let, q_lef, q_ltt, q_ltf, q_eqt, q_eqf, q_add, q_mul, Nat.reduceAdd, Nat.reduceLeDiff, Nat.reduceEqDiff, eq_self, Nat.zero_le, Nat.le_refl, not_false_eq_true, not_true_eq_false, true_and, and_true, and_self, if_true, if_false, q_isL1, q_i2l, e1, hm, h9, e2, q_rlN, q_leqf, e3, lN_i, q_div, q_rem, p1.o, p1.g0, p1.g7, p1.l1, hP, hR2, c1, c2, cl165 h165, hT3]
      exact lp174 h165 p1 hz hN hT0 hT6 hP0 hP6 n (k + 1) _ (w + 1) _ _ _ _ _ (by omega) (gM_wvY hG) (cY_wvY m3 hG hC) (by rw [wvY_out (by decide)]; exact hT) (by rw [wvY_out (by decide)]; exact hP) ⟨r + 1, by omega, by
        have := @wvY_row M 8789 (drN z k / 8 % nP) (drN z k / 64 % 2)
        rw [show (8789 + 30) = 8819 from rfl, hR2, q_cl (by omega)] at this
        exact this⟩ (Or.inr ⟨_, rfl⟩) hQ
    · rw [if_neg c3] at hQ
      simp (disch := first | assumption | omega) only [e174_0, e174_1, e174_2, e174_3, e174_6, e174_9, e174_12, e174_13, e174_14, e174_15, e174_18, e174_21, e174_24, e174_25, e174_26, e174_27, e174_28, e174_31, e174_34, e174_35, e174_36, e174_37, e174_38, e174_41, e174_44, e174_45, e174_47, e174_48, e174_50, e174_51, e174_55, e174_56, e174_59, e174_62, e174_63, e174_64, e174_65, e174_68, e174_70, e174_71, e174_72, e174_73, e174_74, e174_75, e174_77, e174_79, e174_81, e174_82, e174_85, e174_86, e174_87, e174_89, e174_91, e174_93, e174_94, e174_96, e174_98, e174_100, e174_101, e174_103, e174_106, e174_107, e174_110, e174_113, e174_114, e174_115, e174_118, e174_120, e174_122, e174_123, e174_125, e174_128, e174_129, e174_132, e174_135, e174_137, e174_138, e174_141, e174_142, e174_143, e174_144, e174_145, e174_148, e174_149, e174_152, e174_155, e174_156, e174_158, e174_161, e174_163, e174_164, e174_167, e174_169, e174_170, e174_173, e174_174, e174_176, e174_178, e174_179, e174_180, e174_181, e174_184, e174_185, e174_187, e174_190, e174_193, e174_196, e174_197, e174_200, e174_202, e174_205, e174_207, q_gv0, q_gvs, q_isI1, q_isA1, q_hs0, q_hsn, q_hsi, q_hsr, q_hss, q_inc1, List.set_cons_zero, List.set_cons_succ, ↓reduceIte, q_ss0, q_ssi, q_ssr, q_nr0, q_nr10, q_nr11, q_tlS, q_tlN, q_cl, q_let, q_lef, q_ltt, q_ltf, q_eqt, q_eqf, q_add, q_mul, Nat.reduceAdd, Nat.reduceLeDiff, Nat.reduceEqDiff, eq_self, Nat.zero_le, Nat.le_refl, not_false_eq_true, not_true_eq_false, true_and, and_true, and_self, if_true, if_false, q_isL1, q_i2l, e1, hm, h9, e2, q_rlN, q_leqf, e3, lN_i, q_div, q_rem, p1.g0, p1.l1, hR2, c1, c2]
      exact lp174 h165 p1 hz hN hT0 hT6 hP0 hP6 n (k + 1) _ w j _ _ _ _ (by omega) hG hC hT hP hR (Or.inr ⟨_, rfl⟩) hQ
theorem in_g (x a b : Int32) : nI (inN x a b) = if x < a then nI 0 else if b < x then nI 0 else nI 1 := by
  unfold inN
  split
  · rfl
  · split <;> rfl
def bdZ (M : mv_Mem) (x y : Nat) : Nat × Nat × mv_Mem := bdY x y 0 (cpY M 0 8789 799) 0 0
def sp174 : mv_Sp := fun As sh M Q => ∃ (x : Int32) (y : Int32) (z : Int32), As = [.ref 0, .int x, .int y, .int z] ∧ ((oM sh) ∧ (gM M) ∧ (cY M 0) ∧ (∃ r, r < 25 ∧ M 1 30 = nI r) ∧ (0 < (M 0 3).toNatClampNeg) ∧ (0 < (M 0 7).toNatClampNeg)) ∧ Q (some (.int (if x < nI 0 then Int32.ofInt (-1) else if nI 9999 < x then Int32.ofInt (-1) else if y < nI 1 then Int32.ofInt (-1) else if nI 60 < y then Int32.ofInt (-1) else if z < nI 0 then Int32.ofInt (-1) else if nI 1 < z then Int32.ofInt (-1) else if z = nI 0 then nI (bdZ M x.toNatClampNeg y.toNatClampNeg).1 else nI (bdZ M x.toNatClampNeg y.toNatClampNeg).2.1))) (sh) (if x < nI 0 then M else if nI 9999 < x then M else if y < nI 1 then M else if nI 60 < y then M else if z < nI 0 then M else if nI 1 < z then M else (bdZ M x.toNatClampNeg y.toNatClampNeg).2.2)
theorem cl174 {S : Nat → mv_Sp} (hS : S 174 = sp174) {sh : mv_Shp} {M : mv_Mem} {x : Int32} {y : Int32} {z : Int32} (p1 : oM sh) (p2 : gM M) (p3 : cY M 0) (p4 : ∃ r, r < 25 ∧ M 1 30 = nI r) (p5 : 0 < (M 0 3).toNatClampNeg) (p6 : 0 < (M 0 7).toNatClampNeg) {K : mv_Kt} {pc : Nat} {L : mv_Loc} {st : List Value} {cc_ ss_ : Nat} : mv_kal S 174 [.ref 0, .int x, .int y, .int z] sh M K pc L st cc_ ss_ = K pc L ((some (.int (if x < nI 0 then Int32.ofInt (-1) else if nI 9999 < x then Int32.ofInt (-1) else if y < nI 1 then Int32.ofInt (-1) else if nI 60 < y then Int32.ofInt (-1) else if z < nI 0 then Int32.ofInt (-1) else if nI 1 < z then Int32.ofInt (-1) else if z = nI 0 then nI (bdZ M x.toNatClampNeg y.toNatClampNeg).1 else nI (bdZ M x.toNatClampNeg y.toNatClampNeg).2.1)) : Option Value).toList ++ st) (sh) (if x < nI 0 then M else if nI 9999 < x then M else if y < nI 1 then M else if nI 60 < y then M else if z < nI 0 then M else if nI 1 < z then M else (bdZ M x.toNatClampNeg y.toNatClampNeg).2.2) cc_ ss_ := by
  refine q_kal (fun F => q_cali (fun Q => ?_))
  rw [hS]
  constructor
  · rintro ⟨x', y', z', hE, ⟨zp1, zp2, zp3, zp4, zp5, zp6⟩, hQ⟩
    simp only [List.cons.injEq, Value.ref.injEq, Value.int.injEq, Value.long.injEq, and_true, true_and] at hE
    obtain ⟨rfl, rfl, rfl⟩ := hE
    exact hQ
  · intro hQ
    exact ⟨x, y, z, rfl, ⟨p1, p2, p3, p4, p5, p6⟩, hQ⟩
theorem ct174 {S : Nat → mv_Sp} (h144 : S 144 = sp144) (h156 : S 156 = sp156) (h165 : S 165 = sp165) : ∀ As sh M P, sp174 As sh M P → (mv_al0 As).length ≤ 11 ∧ mr174 S P 0 (mv_ent As 11) [] sh M 0 0 := by
  rintro As sh M P ⟨x, y, z, rfl, ⟨p1, p2, p3, p4, p5, p6⟩, hQ⟩
  refine ⟨Nat.le_of_ble_eq_true rfl, ?_⟩
  show mr174 S P 0 [some (.ref 0), some (.int x), some (.int y), some (.int z), none, none, none, none, none, none, none] [] sh M 0 0
  have ix := in_g x (nI 0) (nI 9999)
  have iy := in_g y (nI 1) (nI 60)
  have iz := in_1 z
  by_cases c1 : x < nI 0
  · rw [if_pos c1] at ix
    rw [if_pos c1, if_pos c1] at hQ
    simp (disch := first | assumption | omega) only [e174_0, e174_1, e174_2, e174_3, e174_6, e174_9, e174_12, e174_13, e174_14, e174_15, e174_18, e174_21, e174_24, e174_25, e174_26, e174_27, e174_28, e174_31, e174_34, e174_35, e174_36, e174_37, e174_38, e174_41, e174_44, e174_45, e174_47, e174_48, e174_50, e174_51, e174_55, e174_56, e174_59, e174_62, e174_63, e174_64, e174_65, e174_68, e174_70, e174_71, e174_72, e174_73, e174_74, e174_75, e174_77, e174_79, e174_81, e174_82, e174_85, e174_86, e174_87, e174_89, e174_91, e174_93, e174_94, e174_96, e174_98, e174_100, e174_101, e174_103, e174_106, e174_107, e174_110, e174_113, e174_114, e174_115, e174_118, e174_120, e174_122, e174_123, e174_125, e174_128, e174_129, e174_132, e174_135, e174_137, e174_138, e174_141, e174_142, e174_143, e174_144, e174_145, e174_148, e174_149, e174_152, e174_155, e174_156, e174_158, e174_161, e174_163, e174_164, e174_167, e174_169, e174_170, e174_173, e174_174, e174_176, e174_178, e174_179, e174_180, e174_181, e174_184, e174_185, e174_187, e174_190, e174_193, e174_196, e174_197, e174_200, e174_202, e174_205, e174_207, q_gv0, q_gvs, q_isI1, q_isA1, q_hs0, q_hsn, q_hsi, q_hsr, q_hss, q_inc1, List.set_cons_zero, List.set_cons_succ, ↓reduceIte, q_ss0, q_ssi, q_ssr, q_nr0, q_nr10, q_nr11, q_tlS, q_tlN, q_cl, q_let, q_lef, q_ltt, q_ltf, q_eqt, q_eqf, q_add, q_mul, Nat.reduceAdd, Nat.reduceLeDiff, Nat.reduceEqDiff, eq_self, Nat.zero_le, Nat.le_refl, not_false_eq_true, not_true_eq_false, true_and, and_true, and_self, if_true, if_false, q_isL1, q_lc, cr144 h144, ix]
    exact hQ
  rw [if_neg c1] at ix
  rw [if_neg c1, if_neg c1] at hQ
  by_cases c2 : nI 9999 < x
  · rw [if_pos c2] at ix
    rw [if_pos c2, if_pos c2] at hQ
    simp (disch := first | assumption | omega) only [e174_0, e174_1, e174_2, e174_3, e174_6, e174_9, e174_12, e174_13, e174_14, e174_15, e174_18, e174_21, e174_24, e174_25, e174_26, e174_27, e174_28, e174_31, e174_34, e174_35, e174_36, e174_37, e174_38, e174_41, e174_44, e174_45, e174_47, e174_48, e174_50, e174_51, e174_55, e174_56, e174_59, e174_62, e174_63, e174_64, e174_65, e174_68, e174_70, e174_71, e174_72, e174_73, e174_74, e174_75, e174_77, e174_79, e174_81, e174_82, e174_85, e174_86, e174_87, e174_89, e174_91, e174_93, e174_94, e174_96, e174_98, e174_100, e174_101, e174_103, e174_106, e174_107, e174_110, e174_113, e174_114, e174_115, e174_118, e174_120, e174_122, e174_123, e174_125, e174_128, e174_129, e174_132, e174_135, e174_137, e174_138, e174_141, e174_142, e174_143, e174_144, e174_145, e174_148, e174_149, e174_152, e174_155, e174_156, e174_158, e174_161, e174_163, e174_164, e174_167, e174_169, e174_170, e174_173, e174_174, e174_176, e174_178, e174_179, e174_180, e174_181, e174_184, e174_185, e174_187, e174_190, e174_193, e174_196, e174_197, e174_200, e174_202, e174_205, e174_207, q_gv0, q_gvs, q_isI1, q_isA1, q_hs0, q_hsn, q_hsi, q_hsr, q_hss, q_inc1, List.set_cons_zero, List.set_cons_succ, ↓reduceIte, q_ss0, q_ssi, q_ssr, q_nr0, q_nr10, q_nr11, q_tlS, q_tlN, q_cl, q_let, q_lef, q_ltt, q_ltf, q_eqt, q_eqf, q_add, q_mul, Nat.reduceAdd, Nat.reduceLeDiff, Nat.reduceEqDiff, eq_self, Nat.zero_le, Nat.le_refl, not_false_eq_true, not_true_eq_false, true_and, and_true, and_self, if_true, if_false, q_isL1, q_lc, cr144 h144, ix]
    exact hQ
  rw [if_neg c2] at ix
  rw [if_neg c2, if_neg c2] at hQ
  by_cases c3 : y < nI 1
  · rw [if_pos c3] at iy
    rw [if_pos c3, if_pos c3] at hQ
    simp (disch := first | assumption | omega) only [e174_0, e174_1, e174_2, e174_3, e174_6, e174_9, e174_12, e174_13, e174_14, e174_15, e174_18, e174_21, e174_24, e174_25, e174_26, e174_27, e174_28, e174_31, e174_34, e174_35, e174_36, e174_37, e174_38, e174_41, e174_44, e174_45, e174_47, e174_48, e174_50, e174_51, e174_55, e174_56, e174_59, e174_62, e174_63, e174_64, e174_65, e174_68, e174_70, e174_71, e174_72, e174_73, e174_74, e174_75, e174_77, e174_79, e174_81, e174_82, e174_85, e174_86, e174_87, e174_89, e174_91, e174_93, e174_94, e174_96, e174_98, e174_100, e174_101, e174_103, e174_106, e174_107, e174_110, e174_113, e174_114, e174_115, e174_118, e174_120, e174_122, e174_123, e174_125, e174_128, e174_129, e174_132, e174_135, e174_137, e174_138, e174_141, e174_142, e174_143, e174_144, e174_145, e174_148, e174_149, e174_152, e174_155, e174_156, e174_158, e174_161, e174_163, e174_164, e174_167, e174_169, e174_170, e174_173, e174_174, e174_176, e174_178, e174_179, e174_180, e174_181, e174_184, e174_185, e174_187, e174_190, e174_193, e174_196, e174_197, e174_200, e174_202, e174_205, e174_207, q_gv0, q_gvs, q_isI1, q_isA1, q_hs0, q_hsn, q_hsi, q_hsr, q_hss, q_inc1, List.set_cons_zero, List.set_cons_succ, ↓reduceIte, q_ss0, q_ssi, q_ssr, q_nr0, q_nr10, q_nr11, q_tlS, q_tlN, q_cl, q_let, q_lef, q_ltt, q_ltf, q_eqt, q_eqf, q_add, q_mul, Nat.reduceAdd, Nat.reduceLeDiff, Nat.reduceEqDiff, eq_self, Nat.zero_le, Nat.le_refl, not_false_eq_true, not_true_eq_false, true_and, and_true, and_self, if_true, if_false, q_isL1, q_lc, cr144 h144, ix, iy]
    exact hQ
  rw [if_neg c3] at iy
  rw [if_neg c3, if_neg c3] at hQ
  by_cases c4 : nI 60 < y
  · rw [if_pos c4] at iy
    rw [if_pos c4, if_pos c4] at hQ
    simp (disch := first | assumption | omega) only [e174_0, e174_1, e174_2, e174_3, e174_6, e174_9, e174_12, e174_13, e174_14, e174_15, e174_18, e174_21, e174_24, e174_25, e174_26, e174_27, e174_28, e174_31, e174_34, e174_35, e174_36, e174_37, e174_38, e174_41, e174_44, e174_45, e174_47, e174_48, e174_50, e174_51, e174_55, e174_56, e174_59, e174_62, e174_63, e174_64, e174_65, e174_68, e174_70, e174_71, e174_72, e174_73, e174_74, e174_75, e174_77, e174_79, e174_81, e174_82, e174_85, e174_86, e174_87, e174_89, e174_91, e174_93, e174_94, e174_96, e174_98, e174_100, e174_101, e174_103, e174_106, e174_107, e174_110, e174_113, e174_114, e174_115, e174_118, e174_120, e174_122, e174_123, e174_125, e174_128, e174_129, e174_132, e174_135, e174_137, e174_138, e174_141, e174_142, e174_143, e174_144, e174_145, e174_148, e174_149, e174_152, e174_155, e174_156, e174_158, e174_161, e174_163, e174_164, e174_167, e174_169, e174_170, e174_173, e174_174, e174_176, e174_178, e174_179, e174_180, e174_181, e174_184, e174_185, e174_187, e174_190, e174_193, e174_196, e174_197, e174_200, e174_202, e174_205, e174_207, q_gv0, q_gvs, q_isI1, q_isA1, q_hs0, q_hsn, q_hsi, q_hsr, q_hss, q_inc1, List.set_cons_zero, List.set_cons_succ, ↓reduceIte, q_ss0, q_ssi, q_ssr, q_nr0, q_nr10, q_nr11, q_tlS, q_tlN, q_cl, q_let, q_lef, q_ltt, q_ltf, q_eqt, q_eqf, q_add, q_mul, Nat.reduceAdd, Nat.reduceLeDiff, Nat.reduceEqDiff, eq_self, Nat.zero_le, Nat.le_refl, not_false_eq_true, not_true_eq_false, true_and, and_true, and_self, if_true, if_false, q_isL1, q_lc, cr144 h144, ix, iy]
    exact hQ
  rw [if_neg c4] at iy
  rw [if_neg c4, if_neg c4] at hQ
  by_cases c5 : z < nI 0
  · rw [if_pos c5] at iz
    rw [if_pos c5, if_pos c5] at hQ
    simp (disch := first | assumption | omega) only [e174_0, e174_1, e174_2, e174_3, e174_6, e174_9, e174_12, e174_13, e174_14, e174_15, e174_18, e174_21, e174_24, e174_25, e174_26, e174_27, e174_28, e174_31, e174_34, e174_35, e174_36, e174_37, e174_38, e174_41, e174_44, e174_45, e174_47, e174_48, e174_50, e174_51, e174_55, e174_56, e174_59, e174_62, e174_63, e174_64, e174_65, e174_68, e174_70, e174_71, e174_72, e174_73, e174_74, e174_75, e174_77, e174_79, e174_81, e174_82, e174_85, e174_86, e174_87, e174_89, e174_91, e174_93, e174_94, e174_96, e174_98, e174_100, e174_101, e174_103, e174_106, e174_107, e174_110, e174_113, e174_114, e174_115, e174_118, e174_120, e174_122, e174_123, e174_125, e174_128, e174_129, e174_132, e174_135, e174_137, e174_138, e174_141, e174_142, e174_143, e174_144, e174_145, e174_148, e174_149, e174_152, e174_155, e174_156, e174_158, e174_161, e174_163, e174_164, e174_167, e174_169, e174_170, e174_173, e174_174, e174_176, e174_178, e174_179, e174_180, e174_181, e174_184, e174_185, e174_187, e174_190, e174_193, e174_196, e174_197, e174_200, e174_202, e174_205, e174_207, q_gv0, q_gvs, q_isI1, q_isA1, q_hs0, q_hsn, q_hsi, q_hsr, q_hss, q_inc1, List.set_cons_zero, List.set_cons_succ, ↓reduceIte, q_ss0, q_ssi, q_ssr, q_nr0, q_nr10, q_nr11, q_tlS, q_tlN, q_cl, q_let, q_lef, q_ltt, q_ltf, q_eqt, q_eqf, q_add, q_mul, Nat.reduceAdd, Nat.reduceLeDiff, Nat.reduceEqDiff, eq_self, Nat.zero_le, Nat.le_refl, not_false_eq_true, not_true_eq_false, true_and, and_true, and_self, if_true, if_false, q_isL1, q_lc, cr144 h144, ix, iy, iz]
    exact hQ
  rw [if_neg c5] at iz
  rw [if_neg c5, if_neg c5] at hQ
  by_cases c6 : nI 1 < z
  · rw [if_pos c6] at iz
    rw [if_pos c6, if_pos c6] at hQ
    simp (disch := first | assumption | omega) only [e174_0, e174_1, e174_2, e174_3, e174_6, e174_9, e174_12, e174_13, e174_14, e174_15, e174_18, e174_21, e174_24, e174_25, e174_26, e174_27, e174_28, e174_31, e174_34, e174_35, e174_36, e174_37, e174_38, e174_41, e174_44, e174_45, e174_47, e174_48, e174_50, e174_51, e174_55, e174_56, e174_59, e174_62, e174_63, e174_64, e174_65, e174_68, e174_70, e174_71, e174_72, e174_73, e174_74, e174_75, e174_77, e174_79, e174_81, e174_82, e174_85, e174_86, e174_87, e174_89, e174_91, e174_93, e174_94, e174_96, e174_98, e174_100, e174_101, e174_103, e174_106, e174_107, e174_110, e174_113, e174_114, e174_115, e174_118, e174_120, e174_122, e174_123, e174_125, e174_128, e174_129, e174_132, e174_135, e174_137, e174_138, e174_141, e174_142, e174_143, e174_144, e174_145, e174_148, e174_149, e174_152, e174_155, e174_156, e174_158, e174_161, e174_163, e174_164, e174_167, e174_169, e174_170, e174_173, e174_174, e174_176, e174_178, e174_179, e174_180, e174_181, e174_184, e174_185, e174_187, e174_190, e174_193, e174_196, e174_197, e174_200, e174_202, e174_205, e174_207, q_gv0, q_gvs, q_isI1, q_isA1, q_hs0, q_hsn, q_hsi, q_hsr, q_hss, q_inc1, List.set_cons_zero, List.set_cons_succ, ↓reduceIte, q_ss0, q_ssi, q_ssr, q_nr0, q_nr10, q_nr11, q_tlS, q_tlN, q_cl, q_let, q_lef, q_ltt, q_ltf, q_eqt, q_eqf, q_add, q_mul, Nat.reduceAdd, Nat.reduceLeDiff, Nat.reduceEqDiff, eq_self, Nat.zero_le, Nat.le_refl, not_false_eq_true, not_true_eq_false, true_and, and_true, and_self, if_true, if_false, q_isL1, q_lc, cr144 h144, ix, iy, iz]
    exact hQ
  rw [if_neg c6] at iz
  rw [if_neg c6, if_neg c6] at hQ
  rcases i32_c x with d | ⟨k, hk, rfl⟩
  · exact absurd d c1
  rcases i32_c y with d | ⟨n, hn, rfl⟩
  · exact absurd (Int32.lt_trans d (by decide)) c3
  have k1 : ¬ 9999 < k := fun e => c2 ((nI_ltI (by omega) (by omega)).mpr e)
  have n1 : ¬ 60 < n := fun e => c4 ((nI_ltI (by omega) (by omega)).mpr e)
  rw [q_cl hk, q_cl hn] at hQ
  have l1 : 0 + 799 ≤ 9588 := by decide
  have l2 : 8789 + 799 ≤ 9588 := by decide
  have l3 : 0 + 799 ≤ 8789 ∨ 8789 ≤ 0 := by decide
  obtain ⟨nT, hT6, hT⟩ := id p2.1
  obtain ⟨nP, hP6, hP⟩ := id p2.2.1
  rw [hT, q_cl (show nT < 2147483648 by omega)] at p5
  rw [hP, q_cl (show nP < 2147483648 by omega)] at p6
  simp (disch := first | assumption | omega) only [e174_0, e174_1, e174_2, e174_3, e174_6, e174_9, e174_12, e174_13, e174_14, e174_15, e174_18, e174_21, e174_24, e174_25, e174_26, e174_27, e174_28, e174_31, e174_36, e174_37, e174_38, e174_41, e174_44, e174_45, e174_47, e174_48, e174_50, e174_51, q_gv0, q_gvs, q_isI1, q_isA1, q_hs0, q_hsn, q_hsi, q_hsr, q_hss, q_inc1, List.set_cons_zero, List.set_cons_succ, ↓reduceIte, q_ss0, q_ssi, q_ssr, q_nr0, q_nr10, q_nr11, q_tlS, q_tlN, q_cl, q_let, q_lef, q_ltt, q_ltf, q_eqt, q_eqf, q_add, q_mul, Nat.reduceAdd, Nat.reduceLeDiff, Nat.reduceEqDiff, eq_self, Nat.zero_le, Nat.le_refl, not_false_eq_true, not_true_eq_false, true_and, and_true, and_self, if_true, if_false, q_isL1, q_lc, cr144 h144, ix, iy, iz, p1.o, cl156 h156]
  refine lp174 h165 p1 (by omega) (by omega) p5 hT6 p6 hP6 n 0 _ 0 0 none none none none (by omega) (gM_cpY p2) (cY_cpY p2 p3) (by rw [cpY_out (by decide)]; exact hT) (by rw [cpY_out (by decide)]; exact hP) ?_ (Or.inl rfl) hQ
  have e : cpY M 0 8789 799 1 (8789 + 30) = M 1 (0 + 30) := cpY_in (by decide)
  obtain ⟨r, hr, hR⟩ := p4
  exact ⟨r, hr, e.trans hR⟩
