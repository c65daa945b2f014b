/-! a draft's round, a tablet's twist -/
theorem pkE {M : mv_Mem} {a : Nat} (h : gL M a) {k : Nat} (hk : k < 8) : ∃ q w, q < 6 ∧ w < 2 ∧ M (a + 6) k = nI (10 * q + w) := h.2.2.2.2.2.2.2.2.2 k hk
theorem dv10 {q w : Nat} (hw : w < 2) : (10 * q + w) / 10 = q := by omega
theorem md10 {q w : Nat} (hw : w < 2) : (10 * q + w) % 10 = w := by omega
def twF (M : mv_Mem) (t : Nat) : Nat → Int32
  | 0 => nI 0
  | k + 1 => if M (3 + 5) ((M 9 k).toNatClampNeg / 10) >>> (nI t &&& 31) &&& nI 1 = nI 1 then twF M t k + qf (M (3 + 1) t).toNatClampNeg ((M 9 k).toNatClampNeg % 10) else twF M t k
theorem lp130 {S : Nat → mv_Sp} (h55 : S 55 = sp55) (h56 : S 56 = sp56) (h58 : S 58 = sp58) (h60 : S 60 = sp60) {sh : mv_Shp} {M : mv_Mem} {P : mv_Post} {t nK : Nat} (p1 : oX sh) (hG : gL M 3) (ht : t < 6) (hK : M 3 2 = nI nK) (hK8 : nK ≤ 8) (hQ : P (some (.int (twF M t nK + nI 40))) sh M) :
    ∀ n k, k + n = nK → mr130 S P 14 [some (.ref 0), some (.int (nI t)), some (.int (twF M t k)), some (.int (nI k))] [] sh M 0 0
  | 0, k, h => by
    obtain rfl : k = nK := by omega
    have hl := p1.loom
    rw [e130_14]
    simp (disch := first | assumption | omega) only [e130_0, e130_1, e130_2, e130_5, e130_8, e130_9, e130_10, e130_11, e130_12, e130_13, e130_15, e130_16, e130_19, e130_22, e130_25, e130_26, e130_29, e130_30, e130_33, e130_34, e130_37, e130_38, e130_41, e130_44, e130_45, e130_46, e130_49, e130_50, e130_51, e130_54, e130_55, e130_58, e130_61, e130_62, e130_63, e130_66, e130_69, e130_70, e130_72, e130_73, q_gv0, q_gvs, q_isI1, q_isA1, q_hs0, q_hsn, q_hsi, q_hsr, q_hss, q_inc1, List.set_cons_zero, List.set_cons_succ, ↓reduceIte, q_ss0, q_ssi, q_ssr, q_nr0, q_nr10, q_nr11, q_tlS, q_tlN, q_cl, q_let, q_lef, q_ltt, q_ltf, q_eqt, q_eqf, q_add, q_mul, Nat.reduceAdd, Nat.reduceLeDiff, Nat.reduceEqDiff, eq_self, Nat.zero_le, Nat.le_refl, not_false_eq_true, not_true_eq_false, true_and, and_true, and_self, if_true, if_false, p1.g1, hl.g2, hK]
    exact hQ
  | n + 1, k, h => by
    have hl := p1.loom
    have ih := lp130 h55 h56 h58 h60 p1 hG ht hK hK8 hQ n (k + 1) (by omega)
    obtain ⟨q, w, hq, hw, hV⟩ := pkE hG (show k < 8 by omega)
    have hV : M 9 k = nI (10 * q + w) := hV
    have hv : ∃ v, v < 60 ∧ M (3 + 6) k = nI v := ⟨10 * q + w, by omega, hV⟩
    have hk := hG.2.2.2.2.1 t ht
    have k8 : k < 8 := by omega
    unfold twF at ih
    rw [hV, q_cl (show 10 * q + w < 2147483648 by omega), dv10 hw, md10 hw] at ih
    have d1 : (M (3 + 6) k).toNatClampNeg / 10 = q := by show (M 9 k).toNatClampNeg / 10 = q; rw [hV, q_cl (by omega), dv10 hw]
    have d2 : (M (3 + 6) k).toNatClampNeg % 10 = w := by show (M 9 k).toNatClampNeg % 10 = w; rw [hV, q_cl (by omega), md10 hw]
    rw [e130_14]
    by_cases c : M (3 + 5) q >>> (nI t &&& 31) &&& nI 1 = nI 1
    · rw [if_pos c] at ih
      simp (disch := first | assumption | omega) only [e130_0, e130_1, e130_2, e130_5, e130_8, e130_9, e130_10, e130_11, e130_12, e130_13, e130_15, e130_16, e130_19, e130_22, e130_25, e130_26, e130_29, e130_30, e130_33, e130_34, e130_37, e130_38, e130_41, e130_44, e130_45, e130_46, e130_49, e130_50, e130_51, e130_54, e130_55, e130_58, e130_61, e130_62, e130_63, e130_66, e130_69, e130_70, e130_72, e130_73, q_gv0, q_gvs, q_isI1, q_isA1, q_hs0, q_hsn, q_hsi, q_hsr, q_hss, q_inc1, List.set_cons_zero, List.set_cons_succ, ↓reduceIte, q_ss0, q_ssi, q_ssr, q_nr0, q_nr10, q_nr11, q_tlS, q_tlN, q_cl, q_let, q_lef, q_ltt, q_ltf, q_eqt, q_eqf, q_add, q_mul, Nat.reduceAdd, Nat.reduceLeDiff, Nat.reduceEqDiff, eq_self, Nat.zero_le, Nat.le_refl, not_false_eq_true, not_true_eq_false, true_and, and_true, and_self, if_true, if_false, p1.g1, hl.g2, hl.o, hK, cl55 h55, cl56 h56, cl58 h58, cl60 h60, d1, d2, c]
      exact ih
    · rw [if_neg c] at ih
      simp (disch := first | assumption | omega) only [e130_0, e130_1, e130_2, e130_5, e130_8, e130_9, e130_10, e130_11, e130_12, e130_13, e130_15, e130_16, e130_19, e130_22, e130_25, e130_26, e130_29, e130_30, e130_33, e130_34, e130_37, e130_38, e130_41, e130_44, e130_45, e130_46, e130_49, e130_50, e130_51, e130_54, e130_55, e130_58, e130_61, e130_62, e130_63, e130_66, e130_69, e130_70, e130_72, e130_73, q_gv0, q_gvs, q_isI1, q_isA1, q_hs0, q_hsn, q_hsi, q_hsr, q_hss, q_inc1, List.set_cons_zero, List.set_cons_succ, ↓reduceIte, q_ss0, q_ssi, q_ssr, q_nr0, q_nr10, q_nr11, q_tlS, q_tlN, q_cl, q_let, q_lef, q_ltt, q_ltf, q_eqt, q_eqf, q_add, q_mul, Nat.reduceAdd, Nat.reduceLeDiff, Nat.reduceEqDiff, eq_self, Nat.zero_le, Nat.le_refl, not_false_eq_true, not_true_eq_false, true_and, and_true, and_self, if_true, if_false, p1.g1, hl.g2, hl.o, hK, cl55 h55, cl56 h56, cl58 h58, cl60 h60, d1, d2, c]
      exact ih
def sp130 : mv_Sp := fun As sh M Q => ∃ (x : Int32), As = [.ref 0, .int x] ∧ ((oX sh) ∧ (gL M 3)) ∧ Q (some (.int (if x < nI 0 then Int32.ofInt (-1) else if M 3 0 ≤ x then Int32.ofInt (-1) else twF M x.toNatClampNeg (M 3 2).toNatClampNeg + nI 40))) (sh) (M)
theorem cl130 {S : Nat → mv_Sp} (hS : S 130 = sp130) {sh : mv_Shp} {M : mv_Mem} {x : Int32} (p1 : oX sh) (p2 : gL M 3) {K : mv_Kt} {pc : Nat} {L : mv_Loc} {st : List Value} {cc_ ss_ : Nat} : mv_kal S 130 [.ref 0, .int x] sh M K pc L st cc_ ss_ = K pc L ((some (.int (if x < nI 0 then Int32.ofInt (-1) else if M 3 0 ≤ x then Int32.ofInt (-1) else twF M x.toNatClampNeg (M 3 2).toNatClampNeg + nI 40)) : Option Value).toList ++ st) (sh) (M) cc_ ss_ := by
  refine q_kal (fun F => q_cali (fun Q => ?_))
  rw [hS]
  constructor
  · rintro ⟨x', hE, ⟨zp1, zp2⟩, hQ⟩
    simp only [List.cons.injEq, Value.ref.injEq, Value.int.injEq, Value.long.injEq, and_true, true_and] at hE
    subst hE
    exact hQ
  · intro hQ
    exact ⟨x, rfl, ⟨p1, p2⟩, hQ⟩
theorem ct130 {S : Nat → mv_Sp} (h55 : S 55 = sp55) (h56 : S 56 = sp56) (h58 : S 58 = sp58) (h60 : S 60 = sp60) (h91 : S 91 = sp91) : ∀ As sh M P, sp130 As sh M P → (mv_al0 As).length ≤ 4 ∧ mr130 S P 0 (mv_ent As 4) [] sh M 0 0 := by
  rintro As sh M P ⟨x, rfl, ⟨p1, p2⟩, hQ⟩
  refine ⟨Nat.le_of_ble_eq_true rfl, ?_⟩
  show mr130 S P 0 [some (.ref 0), some (.int x), none, none] [] sh M 0 0
  obtain ⟨n, hn, hN⟩ := p2.1
  obtain ⟨nK, hK8, hK⟩ := p2.2.2.1
  rcases i32_c x with c1 | ⟨k, hk, rfl⟩
  · simp only [c1, if_true] at hQ
    simp (disch := first | assumption | omega) only [e130_0, e130_1, e130_2, e130_5, e130_8, e130_9, q_gv0, q_gvs, q_isI1, q_isA1, q_hs0, q_hsn, q_hsi, q_hsr, q_hss, q_inc1, List.set_cons_zero, List.set_cons_succ, ↓reduceIte, q_ss0, q_ssi, q_ssr, q_nr0, q_nr10, q_nr11, q_tlS, q_tlN, q_cl, q_let, q_lef, q_ltt, q_ltf, q_eqt, q_eqf, q_add, q_mul, Nat.reduceAdd, Nat.reduceLeDiff, Nat.reduceEqDiff, eq_self, Nat.zero_le, Nat.le_refl, not_false_eq_true, not_true_eq_false, true_and, and_true, and_self, if_true, if_false, p1.o, cl91 h91, c1]
    exact hQ
  have c1 : (nI k < nI 0) = False := q_ltf (by omega) hk
  simp only [c1, if_false] at hQ
  by_cases c2 : n ≤ k
  · have c3 : (nI n ≤ nI k) = True := q_let c2 hk
    simp only [hN, c3, if_true] at hQ
    simp (disch := first | assumption | omega) only [e130_0, e130_1, e130_2, e130_5, e130_8, e130_9, q_gv0, q_gvs, q_isI1, q_isA1, q_hs0, q_hsn, q_hsi, q_hsr, q_hss, q_inc1, List.set_cons_zero, List.set_cons_succ, ↓reduceIte, q_ss0, q_ssi, q_ssr, q_nr0, q_nr10, q_nr11, q_tlS, q_tlN, q_cl, q_let, q_lef, q_ltt, q_ltf, q_eqt, q_eqf, q_add, q_mul, Nat.reduceAdd, Nat.reduceLeDiff, Nat.reduceEqDiff, eq_self, Nat.zero_le, Nat.le_refl, not_false_eq_true, not_true_eq_false, true_and, and_true, and_self, if_true, if_false, p1.o, cl91 h91, c1, hN, c3]
    exact hQ
  have c3 : (nI n ≤ nI k) = False := q_lef (by omega) (by omega)
  simp only [hN, hK, c3, if_false, q_cl hk, q_cl (show nK < 2147483648 by omega)] at hQ
  simp (disch := first | assumption | omega) only [e130_0, e130_1, e130_2, e130_5, e130_10, e130_11, e130_12, e130_13, q_gv0, q_gvs, q_isI1, q_isA1, q_hs0, q_hsn, q_hsi, q_hsr, q_hss, q_inc1, List.set_cons_zero, List.set_cons_succ, ↓reduceIte, q_ss0, q_ssi, q_ssr, q_nr0, q_nr10, q_nr11, q_tlS, q_tlN, q_cl, q_let, q_lef, q_ltt, q_ltf, q_eqt, q_eqf, q_add, q_mul, Nat.reduceAdd, Nat.reduceLeDiff, Nat.reduceEqDiff, eq_self, Nat.zero_le, Nat.le_refl, not_false_eq_true, not_true_eq_false, true_and, and_true, and_self, if_true, if_false, p1.o, cl91 h91, c1, hN, c3]
  exact lp130 h55 h56 h58 h60 p1 p2 (show k < 6 by omega) hK hK8 hQ nK 0 (by omega)
