/-! the model: a pick woven, looms copied, the past kept -/
theorem cY_of {M N : mv_Mem} {b : Nat} (hT : (M 0 3).toNatClampNeg ≤ 6) (h : cY M b) (e0 : N 0 3 = M 0 3) (e : ∀ j, b ≤ j → j < b + 30 → N 1 j = M 1 j) : cY N b := by
  intro t ht
  rw [e0] at ht
  rw [e _ (by omega) (by omega), e _ (by omega) (by omega), e _ (by omega) (by omega)]
  exact h t ht
theorem gM6 {M : mv_Mem} (h : gM M) : (M 0 3).toNatClampNeg ≤ 6 := by
  obtain ⟨n, hn, hN⟩ := h.1
  rw [hN, q_cl (by omega)]
  exact hn
theorem wvA_out {M : mv_Mem} {b c : Nat} (h : ¬ c = 1) : wvA M b c = M c := cpY_out h
theorem wvA_lo {M : mv_Mem} {b j : Nat} (h : j < b + 31) : wvA M b 1 j = M 1 j := cpY_at (Or.inl (by omega))
theorem gM_wvA {M : mv_Mem} {b : Nat} (h : gM M) : gM (wvA M b) := gM_of h (by rw [wvA_out (by decide)]) (by rw [wvA_out (by decide)]) (by rw [wvA_out (by decide)]) (by rw [wvA_out (by decide)]) (wvA_out (by decide)) (wvA_out (by decide)) (wvA_out (by decide)) (wvA_out (by decide))
theorem gM_trY {M : mv_Mem} {b p w n : Nat} (h : gM M) : gM (trY M b p w n) := gM_of h (by rw [trY_out (by decide)]) (by rw [trY_out (by decide)]) (by rw [trY_out (by decide)]) (by rw [trY_out (by decide)]) (trY_out (by decide) _) (trY_out (by decide) _) (trY_out (by decide) _) (trY_out (by decide) _)
theorem tsY_in {M : mv_Mem} {b p w t : Nat} (h6 : t < 6) (hw : w < 2) (hk : ∃ k, k < 4 ∧ M 2 t = nI k) (h9 : ∃ n, n ≤ 40 ∧ M 0 9 = nI n) (h : (∃ h, h < 4 ∧ M 1 (b + 6 + t) = nI h) ∧ tw40 (M 1 (b + 12 + t)) ∧ (∃ f, f ≤ 99 ∧ M 1 (b + 18 + t) = nI f)) :
    (∃ h, h < 4 ∧ tsY M b p w t 1 (b + 6 + t) = nI h) ∧ tw40 (tsY M b p w t 1 (b + 12 + t)) ∧ (∃ f, f ≤ 99 ∧ tsY M b p w t 1 (b + 18 + t) = nI f) := by
  obtain ⟨k, hk4, hK⟩ := hk
  unfold tsY
  split
  · rename_i h0
    have h1 : ocF (M 2 t).toNatClampNeg w (M 1 (b + 12 + t)) (M 0 9) = 0 := by
      unfold toY at h0
      split at h0
      · exact h0
      · exact absurd h0 (by decide)
    unfold tyM
    refine ⟨?_, ?_, ⟨0, by decide, q_upS⟩⟩
    · rw [q_upN (by omega), q_upN (by omega), q_upN (by omega), q_upS]
      exact pk_andE _ (m := nI 3) 2 (by decide)
    · rw [q_upN (by omega), q_upN (by omega), q_upS]
      exact tw_turn (by rw [hK, q_cl (by omega)]; exact hk4) hw h.2.1 h9 h1
  · refine ⟨?_, ?_, ?_⟩
    · rw [q_upN (by omega)]; exact h.1
    · rw [q_upN (by omega)]; exact h.2.1
    · rw [q_upS]
      obtain ⟨f, hf, hF⟩ := h.2.2
      rw [hF]
      split
      · exact ⟨99, by decide, rfl⟩
      · rename_i z
        refine ⟨f + 1, ?_, q_add⟩
        have : f ≠ 99 := fun e => z (by rw [e])
        omega
theorem cY_tr {M : mv_Mem} {b p w : Nat} (hw : w < 2) (hG : gM M) (h : cY M b) : ∀ n, n ≤ (M 0 3).toNatClampNeg → cY (trY M b p w n) b
  | 0, _ => h
  | n + 1, hn => by
    have ih := cY_tr (p := p) hw hG h n (by omega)
    have h6 := gM6 hG
    have gN := gM_trY (b := b) (p := p) (w := w) (n := n) hG
    have e3 : trY M b p w n 0 3 = M 0 3 := by rw [trY_out (by decide)]
    have e : trY M b p w (n + 1) = tsY (trY M b p w n) b p w n := rfl
    rw [e]
    generalize trY M b p w n = N at ih gN e3 ⊢
    intro t ht
    have e4 : tsY N b p w n 0 3 = N 0 3 := by rw [tsY_out (by decide)]
    rw [e4] at ht
    by_cases z : t = n
    · subst z
      exact tsY_in (by omega) hw (gN.2.2.2.2.1 t ht) gN.2.2.1 (ih t ht)
    · rw [e3] at ht
      rw [tsY_at (by omega) (by omega) (by omega) (by omega), tsY_at (by omega) (by omega) (by omega) (by omega), tsY_at (by omega) (by omega) (by omega) (by omega)]
      exact ih t (by rw [e3]; exact ht)
theorem snY_up {M : mv_Mem} {b j : Nat} {x : Int32} (h : b + 30 ≤ j) : ∀ t, t < 6 → snY (mv_up M 1 j x) b t = snY M b t := by
  intro t ht
  unfold snY
  rw [q_upN (by omega), q_upN (by omega)]
def sp165 : mv_Sp := fun As sh M Q => ∃ (b : Nat) (p : Nat) (w : Nat), As = [.ref 0, .int (nI b), .int (nI p), .int (nI w)] ∧ ((oM sh) ∧ (b + 799 ≤ 9588) ∧ (p < 6) ∧ (w < 2) ∧ (gM M) ∧ (cY M b) ∧ (∃ r, r < 24 ∧ M 1 (b + 30) = nI r)) ∧ Q (some (.int (nI (tjY (wvA M b) b p w (M 0 3).toNatClampNeg)))) (sh) (wvY M b p w)
theorem cl165 {S : Nat → mv_Sp} (hS : S 165 = sp165) {sh : mv_Shp} {M : mv_Mem} {b : Nat} {p : Nat} {w : Nat} (p1 : oM sh) (p2 : b + 799 ≤ 9588) (p3 : p < 6) (p4 : w < 2) (p5 : gM M) (p6 : cY M b) (p7 : ∃ r, r < 24 ∧ M 1 (b + 30) = nI r) {K : mv_Kt} {pc : Nat} {L : mv_Loc} {st : List Value} {cc_ ss_ : Nat} : mv_kal S 165 [.ref 0, .int (nI b), .int (nI p), .int (nI w)] sh M K pc L st cc_ ss_ = K pc L ((some (.int (nI (tjY (wvA M b) b p w (M 0 3).toNatClampNeg))) : Option Value).toList ++ st) (sh) (wvY M b p w) cc_ ss_ := by
  refine q_kal (fun F => q_cali (fun Q => ?_))
  rw [hS]
  constructor
  · rintro ⟨b', p', w', hE, ⟨zp1, zp2, zp3, zp4, zp5, zp6, zp7⟩, hQ⟩
    simp only [List.cons.injEq, Value.ref.injEq, Value.int.injEq, Value.long.injEq, and_true, true_and] at hE
    obtain ⟨e_b, e_p, e_w⟩ := hE
    have z_b := nI_inj e_b (by omega) (by omega)
    subst z_b
    have z_p := nI_inj e_p (by omega) (by omega)
    subst z_p
    have z_w := nI_inj e_w (by omega) (by omega)
    subst z_w
    exact hQ
  · intro hQ
    exact ⟨b, p, w, rfl, ⟨p1, p2, p3, p4, p5, p6, p7⟩, hQ⟩
theorem ct165 {S : Nat → mv_Sp} (h161 : S 161 = sp161) (h162 : S 162 = sp162) (h164 : S 164 = sp164) : ∀ As sh M P, sp165 As sh M P → (mv_al0 As).length ≤ 6 ∧ mr165 S P 0 (mv_ent As 6) [] sh M 0 0 := by
  rintro As sh M P ⟨b, p, w, rfl, ⟨p1, p2, p3, p4, p5, p6, p7⟩, hQ⟩
  refine ⟨Nat.le_of_ble_eq_true rfl, ?_⟩
  show mr165 S P 0 [some (.ref 0), some (.int (nI b)), some (.int (nI p)), some (.int (nI w)), none, none] [] sh M 0 0
  obtain ⟨r, hr, hR⟩ := id p7
  obtain ⟨nT, h6, hT⟩ := p5.1
  have g1 := gM_wvA (b := b) p5
  have c1 : cY (wvA M b) b := cY_of (gM6 p5) p6 (by rw [wvA_out (by decide)]) (fun j _ h => wvA_lo (by omega))
  have e1 : wvA M b = cpY M b (b + 31 + 32 * r + 2) 30 := by unfold wvA; rw [hR, q_cl (by omega)]
  unfold wvY at hQ
  rw [hR, q_cl (show r < 2147483648 by omega)] at hQ
  have e3 : (wvA M b 0 3) = M 0 3 := by rw [wvA_out (by decide)]
  have g2 := gM_trY (b := b) (p := p) (w := w) (n := (M 0 3).toNatClampNeg) g1
  have c2 := cY_tr (p := p) p4 g1 c1 (M 0 3).toNatClampNeg (by rw [e3]; exact Nat.le_refl _)
  have r2 : trY (wvA M b) b p w (M 0 3).toNatClampNeg 1 (b + 30) = nI r := by
    rw [trY_at _ (gM6 p5) (Or.inr (Or.inl (Nat.le_refl _))), wvA_lo (by omega)]
    exact hR
  have t2 : trY (wvA M b) b p w (M 0 3).toNatClampNeg 0 3 = M 0 3 := by rw [trY_out (by decide), e3]
  have cr161 : ∀ {K : mv_Kt} {pc : Nat} {L : mv_Loc} {st : List Value} {c s : Nat}, mv_kal S 161 [.ref 0, .int (nI b), .int (nI p), .int (nI w)] sh (wvA M b) K pc L st c s = K pc L ((some (.int (nI (tjY (wvA M b) b p w (M 0 3).toNatClampNeg)))).toList ++ st) sh (trY (wvA M b) b p w (M 0 3).toNatClampNeg) c s := by
    intro K pc L st c s
    have := @cl161 S h161 sh (wvA M b) b p w p1 p2 p3 p4 g1 c1 K pc L st c s
    rw [e3] at this
    exact this
  have z0 : M = cpY M b (b + 31 + 32 * r + 2) 0 := cpY_0.symm
  simp (disch := first | assumption | omega) only [e165_0, e165_1, e165_3, e165_4, e165_6, e165_7, e165_10, e165_11, e165_13, e165_14, e165_15, e165_16, e165_17, e165_19, e165_20, q_gv0, q_gvs, q_isI1, q_isA1, q_hs0, q_hsn, q_hsi, q_hsr, q_hss, q_inc1, List.set_cons_zero, List.set_cons_succ, ↓reduceIte, q_ss0, q_ssi, q_ssr, q_nr0, q_nr10, q_nr11, q_tlS, q_tlN, q_cl, q_let, q_lef, q_ltt, q_ltf, q_eqt, q_eqf, q_add, q_mul, Nat.reduceAdd, Nat.reduceLeDiff, Nat.reduceEqDiff, eq_self, Nat.zero_le, Nat.le_refl, not_false_eq_true, not_true_eq_false, true_and, and_true, and_self, if_true, if_false, p1.g0, p1.l1, hR]
  rw [z0]
  refine lp165 p1 (by omega) (by omega) (fun z => ?_) 30 0 rfl
  rw [← e1]
  rw [hT, q_cl (show nT < 2147483648 by omega)] at hQ g2 c2 r2 t2
  simp only [hT, q_cl (show nT < 2147483648 by omega)] at cr161
  generalize trY (wvA M b) b p w nT = N at hQ g2 c2 r2 t2 cr161 ⊢
  have hn : ∃ n, n ≤ 6 ∧ N 0 3 = nI n := ⟨nT, h6, t2⟩
  have hn2 : ∃ n, n ≤ 6 ∧ mv_up N 1 (b + 31 + 32 * r) (coY N b) 0 3 = nI n := ⟨nT, h6, by rw [q_upO (by decide)]; exact t2⟩
  have t3 : (mv_up N 1 (b + 31 + 32 * r) (coY N b) 0 3).toNatClampNeg = nT := by rw [q_upO (by decide), t2, q_cl (by omega)]
  have s1 : slF (snY (mv_up N 1 (b + 31 + 32 * r) (coY N b)) b) nT = slF (snY N b) nT := slF_cong nT (fun t ht => snY_up (by omega) t (by omega))
  simp (disch := first | assumption | omega) only [e165_0, e165_1, e165_3, e165_4, e165_6, e165_7, e165_10, e165_11, e165_13, e165_14, e165_15, e165_16, e165_17, e165_19, e165_20, e165_22, e165_29, e165_30, e165_33, e165_35, e165_36, e165_37, e165_39, e165_40, e165_41, e165_44, e165_45, e165_47, e165_48, e165_49, e165_50, e165_53, e165_56, e165_57, e165_58, e165_59, e165_60, e165_63, e165_65, e165_66, e165_69, e165_71, e165_72, e165_73, e165_76, e165_77, e165_78, e165_81, e165_83, e165_84, e165_85, e165_86, e165_87, e165_90, e165_91, e165_92, e165_95, e165_96, e165_98, e165_99, e165_99q, e165_99r, e165_99rq, e165_100, e165_101, e165_102, e165_103, e165_104, e165_106, e165_99r, e165_99q, e165_99rq, q_gv0, q_gvs, q_isI1, q_isA1, q_hs0, q_hsn, q_hsi, q_hsr, q_hss, q_inc1, List.set_cons_zero, List.set_cons_succ, ↓reduceIte, q_ss0, q_ssi, q_ssr, q_nr0, q_nr10, q_nr11, q_tlS, q_tlN, q_cl, q_let, q_lef, q_ltt, q_ltf, q_eqt, q_eqf, q_add, q_mul, Nat.reduceAdd, Nat.reduceLeDiff, Nat.reduceEqDiff, eq_self, Nat.zero_le, Nat.le_refl, not_false_eq_true, not_true_eq_false, true_and, and_true, and_self, if_true, if_false, p1.o, p1.g0, p1.l1, p1.s1, cr161, cl162 h162, cl164 h164, t3, t2, s1, q_upN, r2]
  exact hQ
theorem lp156 {S : Nat → mv_Sp} {sh : mv_Shp} {M : mv_Mem} {P : mv_Post} {f d : Nat} (p1 : oM sh) (hf : f + 799 ≤ 9588) (hd : d + 799 ≤ 9588) (hfd : f + 799 ≤ d ∨ d ≤ f) (hQ : P none sh (cpY M f d 799)) :
    ∀ n k, k + n = 799 → mr156 S P 2 [some (.ref 0), some (.int (nI f)), some (.int (nI d)), some (.int (nI k))] [] sh (cpY M f d k) 0 0
  | 0, k, h => by
    obtain rfl : k = 799 := by omega
    rw [e156_2]
    simp (disch := first | assumption | omega) only [e156_0, e156_1, e156_3, e156_6, e156_9, e156_10, e156_13, e156_14, e156_15, e156_16, e156_17, e156_20, e156_21, e156_22, e156_23, e156_24, e156_25, e156_28, e156_31, q_gv0, q_gvs, q_isI1, q_isA1, q_hs0, q_hsn, q_hsi, q_hsr, q_hss, q_inc1, List.set_cons_zero, List.set_cons_succ, ↓reduceIte, q_ss0, q_ssi, q_ssr, q_nr0, q_nr10, q_nr11, q_tlS, q_tlN, q_cl, q_let, q_lef, q_ltt, q_ltf, q_eqt, q_eqf, q_add, q_mul, Nat.reduceAdd, Nat.reduceLeDiff, Nat.reduceEqDiff, eq_self, Nat.zero_le, Nat.le_refl, not_false_eq_true, not_true_eq_false, true_and, and_true, and_self, if_true, if_false]
    exact hQ
  | n + 1, k, h => by
    have ih := lp156 (S := S) p1 hf hd hfd hQ n (k + 1) (by omega)
    rw [← cpY_step (by omega)] at ih
    rw [e156_2]
    simp (disch := first | assumption | omega) only [e156_0, e156_1, e156_3, e156_6, e156_9, e156_10, e156_13, e156_14, e156_15, e156_16, e156_17, e156_20, e156_21, e156_22, e156_23, e156_24, e156_25, e156_28, e156_31, q_gv0, q_gvs, q_isI1, q_isA1, q_hs0, q_hsn, q_hsi, q_hsr, q_hss, q_inc1, List.set_cons_zero, List.set_cons_succ, ↓reduceIte, q_ss0, q_ssi, q_ssr, q_nr0, q_nr10, q_nr11, q_tlS, q_tlN, q_cl, q_let, q_lef, q_ltt, q_ltf, q_eqt, q_eqf, q_add, q_mul, Nat.reduceAdd, Nat.reduceLeDiff, Nat.reduceEqDiff, eq_self, Nat.zero_le, Nat.le_refl, not_false_eq_true, not_true_eq_false, true_and, and_true, and_self, if_true, if_false, p1.g0, p1.l1, p1.s1]
    exact ih
def sp156 : mv_Sp := fun As sh M Q => ∃ (f : Nat) (d : Nat), As = [.ref 0, .int (nI f), .int (nI d)] ∧ ((oM sh) ∧ (f + 799 ≤ 9588) ∧ (d + 799 ≤ 9588) ∧ ((f + 799 ≤ d ∨ d ≤ f))) ∧ Q (none) (sh) (cpY M f d 799)
theorem cl156 {S : Nat → mv_Sp} (hS : S 156 = sp156) {sh : mv_Shp} {M : mv_Mem} {f : Nat} {d : Nat} (p1 : oM sh) (p2 : f + 799 ≤ 9588) (p3 : d + 799 ≤ 9588) (p4 : (f + 799 ≤ d ∨ d ≤ f)) {K : mv_Kt} {pc : Nat} {L : mv_Loc} {st : List Value} {cc_ ss_ : Nat} : mv_kal S 156 [.ref 0, .int (nI f), .int (nI d)] sh M K pc L st cc_ ss_ = K pc L ((none : Option Value).toList ++ st) (sh) (cpY M f d 799) cc_ ss_ := by
  refine q_kal (fun F => q_cali (fun Q => ?_))
  rw [hS]
  constructor
  · rintro ⟨f', d', hE, ⟨zp1, zp2, zp3, zp4⟩, hQ⟩
    simp only [List.cons.injEq, Value.ref.injEq, Value.int.injEq, Value.long.injEq, and_true, true_and] at hE
    obtain ⟨e_f, e_d⟩ := hE
    have z_f := nI_inj e_f (by omega) (by omega)
    subst z_f
    have z_d := nI_inj e_d (by omega) (by omega)
    subst z_d
    exact hQ
  · intro hQ
    exact ⟨f, d, rfl, ⟨p1, p2, p3, p4⟩, hQ⟩
theorem ct156 {S : Nat → mv_Sp}  : ∀ As sh M P, sp156 As sh M P → (mv_al0 As).length ≤ 4 ∧ mr156 S P 0 (mv_ent As 4) [] sh M 0 0 := by
  rintro As sh M P ⟨f, d, rfl, ⟨p1, p2, p3, p4⟩, hQ⟩
  refine ⟨Nat.le_of_ble_eq_true rfl, ?_⟩
  show mr156 S P 0 [some (.ref 0), some (.int (nI f)), some (.int (nI d)), none] [] sh M 0 0
  have z0 : M = cpY M f d 0 := cpY_0.symm
  simp (disch := first | assumption | omega) only [e156_0, e156_1, e156_3, e156_6, e156_9, e156_10, e156_13, e156_14, e156_15, e156_16, e156_17, e156_20, e156_21, e156_22, e156_23, e156_24, e156_25, e156_28, e156_31, q_gv0, q_gvs, q_isI1, q_isA1, q_hs0, q_hsn, q_hsi, q_hsr, q_hss, q_inc1, List.set_cons_zero, List.set_cons_succ, ↓reduceIte, q_ss0, q_ssi, q_ssr, q_nr0, q_nr10, q_nr11, q_tlS, q_tlN, q_cl, q_let, q_lef, q_ltt, q_ltf, q_eqt, q_eqf, q_add, q_mul, Nat.reduceAdd, Nat.reduceLeDiff, Nat.reduceEqDiff, eq_self, Nat.zero_le, Nat.le_refl, not_false_eq_true, not_true_eq_false, true_and, and_true, and_self, if_true, if_false]
  rw [z0]
  exact lp156 p1 p2 p3 p4 hQ 799 0 rfl
theorem lp157 {S : Nat → mv_Sp} {sh : mv_Shp} {M : mv_Mem} {P : mv_Post} (p1 : oM sh) (hQ : ∀ z, mr157 S P 44 [some (.ref 0), z] [] sh (cpY M 1598 799 5593) 0 0) :
    ∀ n k, k + n = 5593 → mr157 S P 11 [some (.ref 0), some (.int (nI k))] [] sh (cpY M 1598 799 k) 0 0
  | 0, k, h => by
    obtain rfl : k = 5593 := by omega
    rw [e157_11]
    simp (disch := first | assumption | omega) only [e157_0, e157_1, e157_4, e157_6, e157_9, e157_10, e157_12, e157_15, e157_18, e157_19, e157_22, e157_25, e157_26, e157_27, e157_28, e157_31, e157_34, e157_35, e157_36, e157_37, e157_38, e157_41, e157_45, e157_45r, e157_46, e157_49, e157_50, e157_51, e157_54, e157_55, e157_56, e157_59, e157_62, e157_63, e157_66, e157_67, e157_68, e157_71, e157_72, e157_72r, e157_73, e157_76, e157_77, e157_78, e157_81, q_gv0, q_gvs, q_isI1, q_isA1, q_hs0, q_hsn, q_hsi, q_hsr, q_hss, q_inc1, List.set_cons_zero, List.set_cons_succ, ↓reduceIte, q_ss0, q_ssi, q_ssr, q_nr0, q_nr10, q_nr11, q_tlS, q_tlN, q_cl, q_let, q_lef, q_ltt, q_ltf, q_eqt, q_eqf, q_add, q_mul, Nat.reduceAdd, Nat.reduceLeDiff, Nat.reduceEqDiff, eq_self, Nat.zero_le, Nat.le_refl, not_false_eq_true, not_true_eq_false, true_and, and_true, and_self, if_true, if_false]
    exact hQ _
  | n + 1, k, h => by
    have ih := lp157 (S := S) p1 hQ n (k + 1) (by omega)
    rw [← cpY_step (by omega)] at ih
    rw [e157_11]
    simp (disch := first | assumption | omega) only [e157_0, e157_1, e157_4, e157_6, e157_9, e157_10, e157_12, e157_15, e157_18, e157_19, e157_22, e157_25, e157_26, e157_27, e157_28, e157_31, e157_34, e157_35, e157_36, e157_37, e157_38, e157_41, e157_45, e157_45r, e157_46, e157_49, e157_50, e157_51, e157_54, e157_55, e157_56, e157_59, e157_62, e157_63, e157_66, e157_67, e157_68, e157_71, e157_72, e157_72r, e157_73, e157_76, e157_77, e157_78, e157_81, q_gv0, q_gvs, q_isI1, q_isA1, q_hs0, q_hsn, q_hsi, q_hsr, q_hss, q_inc1, List.set_cons_zero, List.set_cons_succ, ↓reduceIte, q_ss0, q_ssi, q_ssr, q_nr0, q_nr10, q_nr11, q_tlS, q_tlN, q_cl, q_let, q_lef, q_ltt, q_ltf, q_eqt, q_eqf, q_add, q_mul, Nat.reduceAdd, Nat.reduceLeDiff, Nat.reduceEqDiff, eq_self, Nat.zero_le, Nat.le_refl, not_false_eq_true, not_true_eq_false, true_and, and_true, and_self, if_true, if_false, p1.g0, p1.l1, p1.s1]
    exact ih
/-- the past kept -/
def kpA (M : mv_Mem) : mv_Mem := if M 0 1 = nI 8 then mv_up (cpY M 1598 799 5593) 0 1 (nI 7) else M
def kpM (M : mv_Mem) : mv_Mem := mv_up (cpY (kpA M) 0 (799 + 799 * (kpA M 0 1).toNatClampNeg) 799) 0 1 (nI ((kpA M 0 1).toNatClampNeg + 1))
def sp157 : mv_Sp := fun As sh M Q => As = [.ref 0] ∧ ((oM sh) ∧ (∃ n, n < 9 ∧ M 0 1 = nI n)) ∧ Q (none) (sh) (kpM M)
theorem cl157 {S : Nat → mv_Sp} (hS : S 157 = sp157) {sh : mv_Shp} {M : mv_Mem}  (p1 : oM sh) (p2 : ∃ n, n < 9 ∧ M 0 1 = nI n) {K : mv_Kt} {pc : Nat} {L : mv_Loc} {st : List Value} {cc_ ss_ : Nat} : mv_kal S 157 [.ref 0] sh M K pc L st cc_ ss_ = K pc L ((none : Option Value).toList ++ st) (sh) (kpM M) cc_ ss_ := by
  refine q_kal (fun F => q_cali (fun Q => ?_))
  rw [hS]
  constructor
  · rintro ⟨hE, ⟨zp1, zp2⟩, hQ⟩
    exact hQ
  · intro hQ
    exact ⟨rfl, ⟨p1, p2⟩, hQ⟩
theorem ct157 {S : Nat → mv_Sp} (h156 : S 156 = sp156) : ∀ As sh M P, sp157 As sh M P → (mv_al0 As).length ≤ 2 ∧ mr157 S P 0 (mv_ent As 2) [] sh M 0 0 := by
  rintro As sh M P ⟨rfl, ⟨p1, p2⟩, hQ⟩
  refine ⟨Nat.le_of_ble_eq_true rfl, ?_⟩
  show mr157 S P 0 [some (.ref 0), none] [] sh M 0 0
  obtain ⟨n, hn, hN⟩ := id p2
  unfold kpM kpA at hQ
  by_cases c : n = 8
  · subst c
    rw [if_pos hN, q_upS, q_cl (show 7 < 2147483648 by omega)] at hQ
    simp (disch := first | assumption | omega) only [e157_0, e157_1, e157_4, e157_6, e157_9, e157_10, e157_12, e157_15, e157_18, e157_19, e157_22, e157_25, e157_26, e157_27, e157_28, e157_31, e157_34, e157_35, e157_36, e157_37, e157_38, e157_41, e157_45, e157_45r, e157_46, e157_49, e157_50, e157_51, e157_54, e157_55, e157_56, e157_59, e157_62, e157_63, e157_66, e157_67, e157_68, e157_71, e157_72, e157_72r, e157_73, e157_76, e157_77, e157_78, e157_81, q_gv0, q_gvs, q_isI1, q_isA1, q_hs0, q_hsn, q_hsi, q_hsr, q_hss, q_inc1, List.set_cons_zero, List.set_cons_succ, ↓reduceIte, q_ss0, q_ssi, q_ssr, q_nr0, q_nr10, q_nr11, q_tlS, q_tlN, q_cl, q_let, q_lef, q_ltt, q_ltf, q_eqt, q_eqf, q_add, q_mul, Nat.reduceAdd, Nat.reduceLeDiff, Nat.reduceEqDiff, eq_self, Nat.zero_le, Nat.le_refl, not_false_eq_true, not_true_eq_false, true_and, and_true, and_self, if_true, if_false, p1.g1, hN]
    rw [show M = cpY M 1598 799 0 from cpY_0.symm]
    refine lp157 p1 (fun z => ?_) 5593 0 rfl
    have e8 : cpY M 1598 799 5593 0 1 = nI 8 := by rw [cpY_out (by decide)]; exact hN
    have e7 : cpY (mv_up (cpY M 1598 799 5593) 0 1 (nI 7)) 0 (799 + 799 * 7) 799 0 1 = nI 7 := by rw [cpY_out (by decide), q_upS]
    have l1 : 799 + 799 * 7 + 799 ≤ 9588 := by decide
    have l2 : 0 + 799 ≤ 9588 := by decide
    have l3 : 0 + 799 ≤ 799 + 799 * 7 ∨ 799 + 799 * 7 ≤ 0 := by decide
    simp (disch := first | assumption | omega) only [e157_0, e157_1, e157_4, e157_6, e157_9, e157_10, e157_12, e157_15, e157_18, e157_19, e157_22, e157_25, e157_26, e157_27, e157_28, e157_31, e157_34, e157_35, e157_36, e157_37, e157_38, e157_41, e157_44, e157_45, e157_45r, e157_46, e157_49, e157_50, e157_51, e157_54, e157_55, e157_56, e157_59, e157_62, e157_63, e157_66, e157_67, e157_68, e157_71, e157_72, e157_72r, e157_73, e157_76, e157_77, e157_78, e157_81, e157_45r, e157_72r, q_gv0, q_gvs, q_isI1, q_isA1, q_hs0, q_hsn, q_hsi, q_hsr, q_hss, q_inc1, List.set_cons_zero, List.set_cons_succ, ↓reduceIte, q_ss0, q_ssi, q_ssr, q_nr0, q_nr10, q_nr11, q_tlS, q_tlN, q_cl, q_let, q_lef, q_ltt, q_ltf, q_eqt, q_eqf, q_add, q_mul, Nat.reduceAdd, Nat.reduceLeDiff, Nat.reduceEqDiff, eq_self, Nat.zero_le, Nat.le_refl, not_false_eq_true, not_true_eq_false, true_and, and_true, and_self, if_true, if_false, p1.o, p1.g1, p1.p1, e8, e7, q_sub, Nat.reduceSub, q_upS, cl156 h156]
    exact hQ
  · have c1 : ¬ M 0 1 = nI 8 := fun z => c ((nI_eq (by omega) (by omega)).mp (hN.symm.trans z))
    rw [if_neg c1, hN, q_cl (show n < 2147483648 by omega)] at hQ
    have e7 : cpY M 0 (799 + 799 * n) 799 0 1 = nI n := by rw [cpY_out (by decide)]; exact hN
    simp (disch := first | assumption | omega) only [e157_0, e157_1, e157_4, e157_6, e157_9, e157_10, e157_12, e157_15, e157_18, e157_19, e157_22, e157_25, e157_26, e157_27, e157_28, e157_31, e157_34, e157_35, e157_36, e157_37, e157_38, e157_41, e157_44, e157_45, e157_45r, e157_46, e157_49, e157_50, e157_51, e157_54, e157_55, e157_56, e157_59, e157_62, e157_63, e157_66, e157_67, e157_68, e157_71, e157_72, e157_72r, e157_73, e157_76, e157_77, e157_78, e157_81, e157_45r, e157_72r, q_gv0, q_gvs, q_isI1, q_isA1, q_hs0, q_hsn, q_hsi, q_hsr, q_hss, q_inc1, List.set_cons_zero, List.set_cons_succ, ↓reduceIte, q_ss0, q_ssi, q_ssr, q_nr0, q_nr10, q_nr11, q_tlS, q_tlN, q_cl, q_let, q_lef, q_ltt, q_ltf, q_eqt, q_eqf, q_add, q_mul, Nat.reduceAdd, Nat.reduceLeDiff, Nat.reduceEqDiff, eq_self, Nat.zero_le, Nat.le_refl, not_false_eq_true, not_true_eq_false, true_and, and_true, and_self, if_true, if_false, p1.o, p1.g1, p1.p1, hN, e7, cl156 h156]
    exact hQ
