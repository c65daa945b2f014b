/-! weaving, copying -/
/-- a pick woven: how the tablets stood, then turned, then the row -/
def wvM (M : mv_Mem) (c a p w : Nat) : mv_Mem :=
  mv_up (mv_up (mv_up (trM (mv_wr M (c + 2) (va_cpy (M (c + 1)) (M (c + 2)) 0 ((M c 2).toNatClampNeg * 32 + 2) 30)) c a p w (M a 0).toNatClampNeg) (c + 2) ((M c 2).toNatClampNeg * 32 + 0)
    (clF (fun t => (M (a + 3)) (t * 4 + (hlF (tpF (fun t => trM (mv_wr M (c + 2) (va_cpy (M (c + 1)) (M (c + 2)) 0 ((M c 2).toNatClampNeg * 32 + 2) 30)) c a p w (M a 0).toNatClampNeg (c + 1) (t * 5 + 0)) 6) t).toNatClampNeg)) (M a 0).toNatClampNeg)) (c + 2) ((M c 2).toNatClampNeg * 32 + 1)
    (slF (snF (trM (mv_wr M (c + 2) (va_cpy (M (c + 1)) (M (c + 2)) 0 ((M c 2).toNatClampNeg * 32 + 2) 30)) c a p w (M a 0).toNatClampNeg) c) (M a 0).toNatClampNeg)) c 2 (nI ((M c 2).toNatClampNeg + 1))
theorem gL_of {M N : mv_Mem} {a : Nat} (h : gL M a) (h0 : N a = M a) (h1 : N (a + 1) = M (a + 1)) (h2 : N (a + 2) = M (a + 2)) (h3 : N (a + 3) = M (a + 3)) (h4 : N (a + 4) = M (a + 4)) (h5 : N (a + 5) = M (a + 5)) (h6 : N (a + 6) = M (a + 6)) : gL N a := by
  unfold gL
  rw [h0, h1, h2, h3, h4, h5, h6]
  exact h
theorem slF_cong {f g : Nat → Int32} : ∀ n, (∀ t, t < n → f t = g t) → slF f n = slF g n
  | 0, _ => rfl
  | n + 1, h => by
    show slF f n ||| (f n <<< _) = slF g n ||| (g n <<< _)
    rw [slF_cong n (fun t ht => h t (by omega)), h n (by omega)]
theorem snF_up {M : mv_Mem} {c b i : Nat} {x : Int32} (h : b ≠ c + 1) : snF (mv_up M b i x) c = snF M c := by
  funext t
  unfold snF
  have : mv_up M b i x (c + 1) = M (c + 1) := q_upO h.symm
  rw [this]
def sp70 : mv_Sp := fun As sh M Q => ∃ (c : Nat) (a : Nat) (p : Nat) (w : Nat), As = [.ref c, .ref a, .int (nI p), .int (nI w)] ∧ ((oC sh c) ∧ (oL sh a) ∧ (p < 6) ∧ (w < 2) ∧ (a + 6 < c) ∧ (gL M a) ∧ (∃ r, r < 24 ∧ M c 2 = nI r)) ∧ Q (some (.int (nI (tjF (mv_wr M (c + 2) (va_cpy (M (c + 1)) (M (c + 2)) 0 ((M c 2).toNatClampNeg * 32 + 2) 30)) c a p w (M a 0).toNatClampNeg)))) (sh) (wvM M c a p w)
theorem cl70 {S : Nat → mv_Sp} (hS : S 70 = sp70) {sh : mv_Shp} {M : mv_Mem} {c : Nat} {a : Nat} {p : Nat} {w : Nat} (p1 : oC sh c) (p2 : oL sh a) (p3 : p < 6) (p4 : w < 2) (p5 : a + 6 < c) (p6 : gL M a) (p7 : ∃ r, r < 24 ∧ M c 2 = nI r) {K : mv_Kt} {pc : Nat} {L : mv_Loc} {st : List Value} {cc_ ss_ : Nat} : mv_kal S 70 [.ref c, .ref a, .int (nI p), .int (nI w)] sh M K pc L st cc_ ss_ = K pc L ((some (.int (nI (tjF (mv_wr M (c + 2) (va_cpy (M (c + 1)) (M (c + 2)) 0 ((M c 2).toNatClampNeg * 32 + 2) 30)) c a p w (M a 0).toNatClampNeg))) : Option Value).toList ++ st) (sh) (wvM M c a p w) cc_ ss_ := by
  refine q_kal (fun F => q_cali (fun Q => ?_))
  rw [hS]
  constructor
  · rintro ⟨c', a', p', w', hE, ⟨zp1, zp2, zp3, zp4, zp5, zp6, zp7⟩, hQ⟩
    simp only [List.cons.injEq, Value.ref.injEq, Value.int.injEq, Value.long.injEq, and_true, true_and] at hE
    obtain ⟨rfl, rfl, e_p, e_w⟩ := hE
    have z_p := nI_inj e_p (by omega) (by omega)
    subst z_p
    have z_w := nI_inj e_w (by omega) (by omega)
    subst z_w
    exact hQ
  · intro hQ
    exact ⟨c, a, p, w, rfl, ⟨p1, p2, p3, p4, p5, p6, p7⟩, hQ⟩
theorem ct70 {S : Nat → mv_Sp} (h64 : S 64 = sp64) (h66 : S 66 = sp66) (h67 : S 67 = sp67) (h69 : S 69 = sp69) : ∀ As sh M P, sp70 As sh M P → (mv_al0 As).length ≤ 6 ∧ mr70 S P 0 (mv_ent As 6) [] sh M 0 0 := by
  rintro As sh M P ⟨c, a, p, w, rfl, ⟨p1, p2, p3, p4, p5, p6, p7⟩, hQ⟩
  refine ⟨Nat.le_of_ble_eq_true rfl, ?_⟩
  show mr70 S P 0 [some (.ref c), some (.ref a), some (.int (nI p)), some (.int (nI w)), none, none] [] sh M 0 0
  unfold wvM at hQ
  obtain ⟨r, hr, hrow⟩ := p7
  obtain ⟨nT, h6, hT⟩ := p6.1
  rw [hrow, hT, q_cl (show r < 2147483648 by omega), q_cl (show nT < 2147483648 by omega)] at hQ
  have hN : ∀ b, b ≠ c + 2 → mv_wr M (c + 2) (va_cpy (M (c + 1)) (M (c + 2)) 0 (r * 32 + 2) 30) b = M b := fun b hb => q_wrO hb
  have hgN : gL (mv_wr M (c + 2) (va_cpy (M (c + 1)) (M (c + 2)) 0 (r * 32 + 2) 30)) a := gL_of p6 (hN _ (by omega)) (hN _ (by omega)) (hN _ (by omega)) (hN _ (by omega)) (hN _ (by omega)) (hN _ (by omega)) (hN _ (by omega))
  have hTN : mv_wr M (c + 2) (va_cpy (M (c + 1)) (M (c + 2)) 0 (r * 32 + 2) 30) a 0 = nI nT := by rw [hN _ (by omega)]; exact hT
  have hrN : mv_wr M (c + 2) (va_cpy (M (c + 1)) (M (c + 2)) 0 (r * 32 + 2) 30) c 2 = nI r := by rw [hN _ (by omega)]; exact hrow
  have ha3 : M (a + 3) = mv_wr M (c + 2) (va_cpy (M (c + 1)) (M (c + 2)) 0 (r * 32 + 2) 30) (a + 3) := (hN _ (by omega)).symm
  rw [ha3] at hQ
  simp (disch := first | assumption | omega) only [e70_0, e70_1, e70_4, e70_7, e70_8, e70_11, e70_13, e70_16, e70_17, e70_18, e70_19, e70_22, e70_24, e70_25, e70_27, e70_28, e70_31, e70_32, e70_33, e70_36, e70_38, e70_39, e70_40, e70_42, e70_45, e70_46, e70_47, e70_48, e70_49, e70_52, e70_54, e70_55, e70_58, e70_60, e70_61, e70_62, e70_63, e70_64, e70_67, e70_70, e70_71, e70_72, e70_75, e70_77, e70_78, e70_79, e70_80, e70_81, e70_84, e70_87, e70_88, e70_89, e70_89r, e70_90, e70_93, e70_94, e70_95, e70_98, e70_100, q_gv0, q_gvs, q_isI1, q_isA1, q_hs0, q_hsn, q_hsi, q_hsr, q_hss, q_inc1, List.set_cons_zero, List.set_cons_succ, ↓reduceIte, q_ss0, q_ssi, q_ssr, q_nr0, q_nr10, q_nr11, q_tlS, q_tlN, q_cl, q_let, q_lef, q_ltt, q_ltf, q_eqt, q_eqf, q_add, q_mul, Nat.reduceAdd, Nat.reduceLeDiff, Nat.reduceEqDiff, eq_self, Nat.zero_le, Nat.le_refl, not_false_eq_true, not_true_eq_false, true_and, and_true, and_self, if_true, if_false, p1.o, p2.o, p1.g2, p1.g0, p1.g1, hrow, q_kcp p1.z1 p1.z2, cl64 h64]
  generalize mv_wr M (c + 2) (va_cpy (M (c + 1)) (M (c + 2)) 0 (r * 32 + 2) 30) = N at hQ hgN hTN hrN ⊢
  rw [hTN, q_cl (show nT < 2147483648 by omega)]
  have hout : ∀ b, b ≠ c + 1 → trM N c a p w nT b = N b := fun b hb => trM_out hb nT
  have e1 : N (a + 3) = trM N c a p w nT (a + 3) := (hout _ (by omega)).symm
  have e2 : trM N c a p w nT a 0 = nI nT := by rw [hout _ (by omega)]; exact hTN
  have e3 : trM N c a p w nT c 2 = nI r := by rw [hout _ (by omega)]; exact hrN
  rw [e1] at hQ
  generalize trM N c a p w nT = O at hQ e2 e3 ⊢
  have hp : ∃ n, n ≤ 6 ∧ O a 0 = nI n := ⟨nT, h6, e2⟩
  simp (disch := first | assumption | omega) only [e70_0, e70_1, e70_4, e70_7, e70_8, e70_11, e70_13, e70_16, e70_17, e70_18, e70_19, e70_22, e70_24, e70_25, e70_27, e70_28, e70_31, e70_32, e70_33, e70_36, e70_38, e70_39, e70_40, e70_42, e70_45, e70_46, e70_47, e70_48, e70_49, e70_52, e70_54, e70_55, e70_58, e70_60, e70_61, e70_62, e70_63, e70_64, e70_67, e70_70, e70_71, e70_72, e70_75, e70_77, e70_78, e70_79, e70_80, e70_81, e70_84, e70_87, e70_88, e70_89, e70_89r, e70_90, e70_93, e70_94, e70_95, e70_98, e70_100, q_gv0, q_gvs, q_isI1, q_isA1, q_hs0, q_hsn, q_hsi, q_hsr, q_hss, q_inc1, List.set_cons_zero, List.set_cons_succ, ↓reduceIte, q_ss0, q_ssi, q_ssr, q_nr0, q_nr10, q_nr11, q_tlS, q_tlN, q_cl, q_let, q_lef, q_ltt, q_ltf, q_eqt, q_eqf, q_add, q_mul, Nat.reduceAdd, Nat.reduceLeDiff, Nat.reduceEqDiff, eq_self, Nat.zero_le, Nat.le_refl, not_false_eq_true, not_true_eq_false, true_and, and_true, and_self, if_true, if_false, p1.o, p2.o, p2.g0, p1.p2, p1.g2, p1.g0, p1.g1, p1.s2, cl66 h66, cl67 h67, cl69 h69, q_upO, e2, e3, snF_up]
  exact hQ
/-- a cloth copied: rows, how it stands, the rows that there are -/
def cpM (M : mv_Mem) (c o : Nat) : mv_Mem :=
  mv_wr (mv_wr (mv_up M c 2 (M o 2)) (c + 1) (va_cpy (M (o + 1)) (M (c + 1)) 0 0 30)) (c + 2) (va_cpy (M (o + 2)) (M (c + 2)) 0 0 ((M o 2).toNatClampNeg * 32))
def sp52 : mv_Sp := fun As sh M Q => ∃ (c : Nat) (o : Nat), As = [.ref c, .ref o] ∧ ((oC sh c) ∧ (oC sh o) ∧ ((c + 2 < o ∨ o + 2 < c)) ∧ (∃ r, r < 25 ∧ M o 2 = nI r)) ∧ Q (none) (sh) (cpM M c o)
theorem cl52 {S : Nat → mv_Sp} (hS : S 52 = sp52) {sh : mv_Shp} {M : mv_Mem} {c : Nat} {o : Nat} (p1 : oC sh c) (p2 : oC sh o) (p3 : (c + 2 < o ∨ o + 2 < c)) (p4 : ∃ r, r < 25 ∧ M o 2 = nI r) {K : mv_Kt} {pc : Nat} {L : mv_Loc} {st : List Value} {cc_ ss_ : Nat} : mv_kal S 52 [.ref c, .ref o] sh M K pc L st cc_ ss_ = K pc L ((none : Option Value).toList ++ st) (sh) (cpM M c o) cc_ ss_ := by
  refine q_kal (fun F => q_cali (fun Q => ?_))
  rw [hS]
  constructor
  · rintro ⟨c', o', hE, ⟨zp1, zp2, zp3, zp4⟩, hQ⟩
    simp only [List.cons.injEq, Value.ref.injEq, Value.int.injEq, Value.long.injEq, and_true, true_and] at hE
    obtain ⟨rfl, rfl⟩ := hE
    exact hQ
  · intro hQ
    exact ⟨c, o, rfl, ⟨p1, p2, p3, p4⟩, hQ⟩
theorem ct52 {S : Nat → mv_Sp}  : ∀ As sh M P, sp52 As sh M P → (mv_al0 As).length ≤ 2 ∧ mr52 S P 0 (mv_ent As 2) [] sh M 0 0 := by
  rintro As sh M P ⟨c, o, rfl, ⟨p1, p2, p3, p4⟩, hQ⟩
  refine ⟨Nat.le_of_ble_eq_true rfl, ?_⟩
  show mr52 S P 0 [some (.ref c), some (.ref o)] [] sh M 0 0
  unfold cpM at hQ
  obtain ⟨r, hr, hrow⟩ := p4
  rw [hrow, q_cl (show r < 2147483648 by omega)] at hQ
  simp (disch := first | assumption | omega) only [e52_0, e52_1, e52_2, e52_5, e52_8, e52_9, e52_12, e52_13, e52_14, e52_17, e52_18, e52_20, e52_23, e52_24, e52_27, e52_28, e52_29, e52_32, e52_33, e52_34, e52_37, e52_39, e52_40, e52_43, q_gv0, q_gvs, q_isI1, q_isA1, q_hs0, q_hsn, q_hsi, q_hsr, q_hss, q_inc1, List.set_cons_zero, List.set_cons_succ, ↓reduceIte, q_ss0, q_ssi, q_ssr, q_nr0, q_nr10, q_nr11, q_tlS, q_tlN, q_cl, q_let, q_lef, q_ltt, q_ltf, q_eqt, q_eqf, q_add, q_mul, Nat.reduceAdd, Nat.reduceLeDiff, Nat.reduceEqDiff, eq_self, Nat.zero_le, Nat.le_refl, not_false_eq_true, not_true_eq_false, true_and, and_true, and_self, if_true, if_false, p2.g2, p2.g0, p2.g1, p1.p2, p1.g0, p1.g1, p1.g2, hrow, q_kcp p2.z1 p1.z1, q_kcp p2.z2 p1.z2, q_upO, q_wrO, q_upS]
  exact hQ
/-- the ring's place, one further and one back -/
def m7 (x : Int32) : Nat := x.toBitVec.toNat % 8
theorem and_m7 (x : Int32) : x &&& nI 7 = nI (m7 x) := pk_and x (m := nI 7) 3 (by decide)
theorem m7_lt (x : Int32) : m7 x < 8 := Nat.mod_lt _ (by decide)
theorem m7_of {x : Int32} {e : Nat} (h : x &&& nI 7 = nI e) (he : e < 8) : m7 x = e := by
  have := m7_lt x
  exact nI_inj ((and_m7 x).symm.trans h) (by omega) (by omega)
theorem m7_up (x : Int32) : m7 (x + nI 1) = (m7 x + 1) % 8 := by
  unfold m7
  rw [Int32.toBitVec_add, BitVec.toNat_add, pk_tn (show 1 < 2 ^ 32 by decide)]
  omega
theorem m7_dn (x : Int32) : m7 (x - nI 1) = (m7 x + 7) % 8 := by
  have h := m7_up (x - nI 1)
  rw [Int32.sub_add_cancel] at h
  have := m7_lt (x - nI 1)
  omega
theorem rg_up {x : Int32} {e : Nat} (h : x &&& nI 7 = nI e) (he : e < 8) : (x + nI 1) &&& nI 7 = nI (if e = 7 then 0 else e + 1) := by
  rw [and_m7, m7_up, m7_of h he]
  congr 1
  split <;> omega
/-- what stands, remembered for undo -/
def rmM (M : mv_Mem) : mv_Mem :=
  mv_up (mv_up (cpM M (25 + 3 * (M 0 6 &&& nI 7).toNatClampNeg) 18) 0 6 (M 0 6 + nI 1)) 0 7 (nI (if (M 0 7).toNatClampNeg = 8 then 8 else (M 0 7).toNatClampNeg + 1))
theorem cpM_out {M : mv_Mem} {c o b : Nat} (h : b ≠ c) (h1 : b ≠ c + 1) (h2 : b ≠ c + 2) : cpM M c o b = M b := by
  unfold cpM
  rw [q_wrO h2, q_wrO h1]
  exact q_upO h
def sp53 : mv_Sp := fun As sh M Q => As = [.ref 0] ∧ ((oX sh) ∧ (∃ e, e < 8 ∧ M 0 6 &&& nI 7 = nI e) ∧ (∃ n, n < 9 ∧ M 0 7 = nI n) ∧ (∃ r, r < 25 ∧ M 18 2 = nI r)) ∧ Q (none) (sh) (rmM M)
theorem cl53 {S : Nat → mv_Sp} (hS : S 53 = sp53) {sh : mv_Shp} {M : mv_Mem}  (p1 : oX sh) (p2 : ∃ e, e < 8 ∧ M 0 6 &&& nI 7 = nI e) (p3 : ∃ n, n < 9 ∧ M 0 7 = nI n) (p4 : ∃ r, r < 25 ∧ M 18 2 = nI r) {K : mv_Kt} {pc : Nat} {L : mv_Loc} {st : List Value} {cc_ ss_ : Nat} : mv_kal S 53 [.ref 0] sh M K pc L st cc_ ss_ = K pc L ((none : Option Value).toList ++ st) (sh) (rmM M) cc_ ss_ := by
  refine q_kal (fun F => q_cali (fun Q => ?_))
  rw [hS]
  constructor
  · rintro ⟨hE, ⟨zp1, zp2, zp3, zp4⟩, hQ⟩
    exact hQ
  · intro hQ
    exact ⟨rfl, ⟨p1, p2, p3, p4⟩, hQ⟩
theorem ct53 {S : Nat → mv_Sp} (h52 : S 52 = sp52) : ∀ As sh M P, sp53 As sh M P → (mv_al0 As).length ≤ 1 ∧ mr53 S P 0 (mv_ent As 1) [] sh M 0 0 := by
  rintro As sh M P ⟨rfl, ⟨p1, p2, p3, p4⟩, hQ⟩
  refine ⟨Nat.le_of_ble_eq_true rfl, ?_⟩
  show mr53 S P 0 [some (.ref 0)] [] sh M 0 0
  unfold rmM at hQ
  obtain ⟨e, he, hE⟩ := p2
  obtain ⟨n, hn, hN⟩ := p3
  rw [hE, hN, q_cl (show e < 2147483648 by omega), q_cl (show n < 2147483648 by omega)] at hQ
  have hE2 : cpM M (25 + 3 * e) 18 0 = M 0 := cpM_out (by omega) (by omega) (by omega)
  have hu := p1.und he
  have hcl := p1.cloth
  by_cases h8 : n = 8
  · rw [if_pos h8] at hQ
    subst h8
    simp (disch := first | assumption | omega) only [e53_0, e53_1, e53_4, e53_5, e53_8, e53_10, e53_11, e53_12, e53_13, e53_16, e53_19, e53_20, e53_20r, e53_21, e53_24, e53_25, e53_26, e53_29, e53_30, e53_31, e53_34, e53_35, e53_36, e53_38, e53_41, e53_44, q_gv0, q_gvs, q_isI1, q_isA1, q_hs0, q_hsn, q_hsi, q_hsr, q_hss, q_inc1, List.set_cons_zero, List.set_cons_succ, ↓reduceIte, q_ss0, q_ssi, q_ssr, q_nr0, q_nr10, q_nr11, q_tlS, q_tlN, q_cl, q_let, q_lef, q_ltt, q_ltf, q_eqt, q_eqf, q_add, q_mul, Nat.reduceAdd, Nat.reduceLeDiff, Nat.reduceEqDiff, eq_self, Nat.zero_le, Nat.le_refl, not_false_eq_true, not_true_eq_false, true_and, and_true, and_self, if_true, if_false, p1.g5, p1.g6, p1.g7, p1.g3, p1.p6, p1.p7, p1.u, p1.cloth, hE, hN, hE2, hu.o, cl52 h52, q_upN]
    exact hQ
  · rw [if_neg h8] at hQ
    simp (disch := first | assumption | omega) only [e53_0, e53_1, e53_4, e53_5, e53_8, e53_10, e53_11, e53_12, e53_13, e53_16, e53_19, e53_20, e53_20r, e53_21, e53_24, e53_25, e53_26, e53_29, e53_30, e53_31, e53_34, e53_35, e53_36, e53_38, e53_41, e53_44, q_gv0, q_gvs, q_isI1, q_isA1, q_hs0, q_hsn, q_hsi, q_hsr, q_hss, q_inc1, List.set_cons_zero, List.set_cons_succ, ↓reduceIte, q_ss0, q_ssi, q_ssr, q_nr0, q_nr10, q_nr11, q_tlS, q_tlN, q_cl, q_let, q_lef, q_ltt, q_ltf, q_eqt, q_eqf, q_add, q_mul, Nat.reduceAdd, Nat.reduceLeDiff, Nat.reduceEqDiff, eq_self, Nat.zero_le, Nat.le_refl, not_false_eq_true, not_true_eq_false, true_and, and_true, and_self, if_true, if_false, p1.g5, p1.g6, p1.g7, p1.g3, p1.p6, p1.p7, p1.u, p1.cloth, hE, hN, hE2, hu.o, cl52 h52, q_upN]
    exact hQ
def sp121 : mv_Sp := fun As sh M Q => ∃ (c : Nat) (k : Nat), As = [.ref c, .int (nI k)] ∧ ((oC sh c) ∧ (k < 24)) ∧ Q (some (.int (M (c + 2) (k * 32 + 0)))) (sh) (M)
theorem cl121 {S : Nat → mv_Sp} (hS : S 121 = sp121) {sh : mv_Shp} {M : mv_Mem} {c : Nat} {k : Nat} (p1 : oC sh c) (p2 : k < 24) {K : mv_Kt} {pc : Nat} {L : mv_Loc} {st : List Value} {cc_ ss_ : Nat} : mv_kal S 121 [.ref c, .int (nI k)] sh M K pc L st cc_ ss_ = K pc L ((some (.int (M (c + 2) (k * 32 + 0))) : Option Value).toList ++ st) (sh) (M) cc_ ss_ := by
  refine q_kal (fun F => q_cali (fun Q => ?_))
  rw [hS]
  constructor
  · rintro ⟨c', k', hE, ⟨zp1, zp2⟩, hQ⟩
    simp only [List.cons.injEq, Value.ref.injEq, Value.int.injEq, Value.long.injEq, and_true, true_and] at hE
    obtain ⟨rfl, e_k⟩ := hE
    have z_k := nI_inj e_k (by omega) (by omega)
    subst z_k
    exact hQ
  · intro hQ
    exact ⟨c, k, rfl, ⟨p1, p2⟩, hQ⟩
theorem ct121 {S : Nat → mv_Sp}  : ∀ As sh M P, sp121 As sh M P → (mv_al0 As).length ≤ 2 ∧ mr121 S P 0 (mv_ent As 2) [] sh M 0 0 := by
  rintro As sh M P ⟨c, k, rfl, ⟨p1, p2⟩, hQ⟩
  refine ⟨Nat.le_of_ble_eq_true rfl, ?_⟩
  show mr121 S P 0 [some (.ref c), some (.int (nI k))] [] sh M 0 0
  simp (disch := first | assumption | omega) only [e121_0, e121_1, e121_4, e121_5, e121_7, e121_10, e121_11, e121_14, e121_15, e121_17, e121_18, e121_19, e121_20, e121_21, e121_24, e121_25, q_gv0, q_gvs, q_isI1, q_isA1, q_hs0, q_hsn, q_hsi, q_hsr, q_hss, q_inc1, List.set_cons_zero, List.set_cons_succ, ↓reduceIte, q_ss0, q_ssi, q_ssr, q_nr0, q_nr10, q_nr11, q_tlS, q_tlN, q_cl, q_let, q_lef, q_ltt, q_ltf, q_eqt, q_eqf, q_add, q_mul, Nat.reduceAdd, Nat.reduceLeDiff, Nat.reduceEqDiff, eq_self, Nat.zero_le, Nat.le_refl, not_false_eq_true, not_true_eq_false, true_and, and_true, and_self, if_true, if_false, p1.g1, p1.l2]
  exact hQ
def sp122 : mv_Sp := fun As sh M Q => ∃ (c : Nat) (k : Nat), As = [.ref c, .int (nI k)] ∧ ((oC sh c) ∧ (k < 24)) ∧ Q (some (.int (M (c + 2) (k * 32 + 1)))) (sh) (M)
theorem cl122 {S : Nat → mv_Sp} (hS : S 122 = sp122) {sh : mv_Shp} {M : mv_Mem} {c : Nat} {k : Nat} (p1 : oC sh c) (p2 : k < 24) {K : mv_Kt} {pc : Nat} {L : mv_Loc} {st : List Value} {cc_ ss_ : Nat} : mv_kal S 122 [.ref c, .int (nI k)] sh M K pc L st cc_ ss_ = K pc L ((some (.int (M (c + 2) (k * 32 + 1))) : Option Value).toList ++ st) (sh) (M) cc_ ss_ := by
  refine q_kal (fun F => q_cali (fun Q => ?_))
  rw [hS]
  constructor
  · rintro ⟨c', k', hE, ⟨zp1, zp2⟩, hQ⟩
    simp only [List.cons.injEq, Value.ref.injEq, Value.int.injEq, Value.long.injEq, and_true, true_and] at hE
    obtain ⟨rfl, e_k⟩ := hE
    have z_k := nI_inj e_k (by omega) (by omega)
    subst z_k
    exact hQ
  · intro hQ
    exact ⟨c, k, rfl, ⟨p1, p2⟩, hQ⟩
theorem ct122 {S : Nat → mv_Sp}  : ∀ As sh M P, sp122 As sh M P → (mv_al0 As).length ≤ 2 ∧ mr122 S P 0 (mv_ent As 2) [] sh M 0 0 := by
  rintro As sh M P ⟨c, k, rfl, ⟨p1, p2⟩, hQ⟩
  refine ⟨Nat.le_of_ble_eq_true rfl, ?_⟩
  show mr122 S P 0 [some (.ref c), some (.int (nI k))] [] sh M 0 0
  simp (disch := first | assumption | omega) only [e122_0, e122_1, e122_4, e122_5, e122_7, e122_10, e122_11, e122_14, e122_15, e122_17, e122_18, e122_19, e122_20, e122_21, e122_24, e122_25, q_gv0, q_gvs, q_isI1, q_isA1, q_hs0, q_hsn, q_hsi, q_hsr, q_hss, q_inc1, List.set_cons_zero, List.set_cons_succ, ↓reduceIte, q_ss0, q_ssi, q_ssr, q_nr0, q_nr10, q_nr11, q_tlS, q_tlN, q_cl, q_let, q_lef, q_ltt, q_ltf, q_eqt, q_eqf, q_add, q_mul, Nat.reduceAdd, Nat.reduceLeDiff, Nat.reduceEqDiff, eq_self, Nat.zero_le, Nat.le_refl, not_false_eq_true, not_true_eq_false, true_and, and_true, and_self, if_true, if_false, p1.g1, p1.l2]
  exact hQ
def sp132 : mv_Sp := fun As sh M Q => ∃ (c : Nat), As = [.ref c] ∧ ((oC sh c) ∧ (∃ r, r < 25 ∧ 0 < r ∧ M c 2 = nI r)) ∧ Q (none) (sh) (mv_wr (mv_up M c 2 (nI ((M c 2).toNatClampNeg - 1))) (c + 1) (va_cpy (M (c + 2)) (M (c + 1)) (((M c 2).toNatClampNeg - 1) * 32 + 2) 0 30))
theorem cl132 {S : Nat → mv_Sp} (hS : S 132 = sp132) {sh : mv_Shp} {M : mv_Mem} {c : Nat} (p1 : oC sh c) (p2 : ∃ r, r < 25 ∧ 0 < r ∧ M c 2 = nI r) {K : mv_Kt} {pc : Nat} {L : mv_Loc} {st : List Value} {cc_ ss_ : Nat} : mv_kal S 132 [.ref c] sh M K pc L st cc_ ss_ = K pc L ((none : Option Value).toList ++ st) (sh) (mv_wr (mv_up M c 2 (nI ((M c 2).toNatClampNeg - 1))) (c + 1) (va_cpy (M (c + 2)) (M (c + 1)) (((M c 2).toNatClampNeg - 1) * 32 + 2) 0 30)) cc_ ss_ := by
  refine q_kal (fun F => q_cali (fun Q => ?_))
  rw [hS]
  constructor
  · rintro ⟨c', hE, ⟨zp1, zp2⟩, hQ⟩
    simp only [List.cons.injEq, Value.ref.injEq, Value.int.injEq, Value.long.injEq, and_true, true_and] at hE
    subst hE
    exact hQ
  · intro hQ
    exact ⟨c, rfl, ⟨p1, p2⟩, hQ⟩
theorem ct132 {S : Nat → mv_Sp}  : ∀ As sh M P, sp132 As sh M P → (mv_al0 As).length ≤ 1 ∧ mr132 S P 0 (mv_ent As 1) [] sh M 0 0 := by
  rintro As sh M P ⟨c, rfl, ⟨p1, p2⟩, hQ⟩
  refine ⟨Nat.le_of_ble_eq_true rfl, ?_⟩
  show mr132 S P 0 [some (.ref c)] [] sh M 0 0
  obtain ⟨r, hr, h0, hrow⟩ := p2
  rw [hrow, q_cl (show r < 2147483648 by omega)] at hQ
  simp (disch := first | assumption | omega) only [e132_0, e132_1, e132_4, e132_7, e132_8, e132_11, e132_13, e132_16, e132_17, e132_17r, e132_18, e132_21, e132_22, e132_23, e132_26, e132_27, e132_30, e132_31, e132_34, e132_36, e132_37, e132_38, e132_39, e132_40, e132_43, e132_44, e132_46, e132_49, q_gv0, q_gvs, q_isI1, q_isA1, q_hs0, q_hsn, q_hsi, q_hsr, q_hss, q_inc1, List.set_cons_zero, List.set_cons_succ, ↓reduceIte, q_ss0, q_ssi, q_ssr, q_nr0, q_nr10, q_nr11, q_tlS, q_tlN, q_cl, q_let, q_lef, q_ltt, q_ltf, q_eqt, q_eqf, q_add, q_mul, Nat.reduceAdd, Nat.reduceLeDiff, Nat.reduceEqDiff, eq_self, Nat.zero_le, Nat.le_refl, not_false_eq_true, not_true_eq_false, true_and, and_true, and_self, if_true, if_false, p1.g2, p1.g0, p1.g1, p1.p2, hrow, q_kcp p1.z2 p1.z1, q_upO, q_upS, q_sub]
  exact hQ
/-- how many of the tablets below n float for 4 picks or more -/
def lfF (g : Nat → Int32) : Nat → Nat
  | 0 => 0
  | t + 1 => lfF g t + (if g t < nI 4 then 0 else 1)
theorem lfF_le (g : Nat → Int32) : ∀ t, lfF g t ≤ t
  | 0 => Nat.le_refl _
  | t + 1 => by
    have := lfF_le g t
    unfold lfF
    split <;> omega
theorem lp94 {S : Nat → mv_Sp} (h61 : S 61 = sp61) {sh : mv_Shp} {M : mv_Mem} {P : mv_Post} {c nT : Nat} (p1 : oC sh c) (hT6 : nT ≤ 6) (hQ : P (some (.int (nI (lfF (fun t => M (c + 1) (t * 5 + 2)) nT)))) sh M) :
    ∀ n t, t + n = nT → mr94 S P 4 [some (.ref c), some (.int (nI nT)), some (.int (nI (lfF (fun t => M (c + 1) (t * 5 + 2)) t))), some (.int (nI t))] [] sh M 0 0
  | 0, t, h => by
    obtain rfl : t = nT := by omega
    rw [e94_4]
    simp (disch := first | assumption | omega) only [e94_0, e94_1, e94_2, e94_3, e94_5, e94_6, e94_9, e94_10, e94_11, e94_12, e94_15, e94_16, e94_19, e94_22, e94_25, e94_28, e94_29, q_gv0, q_gvs, q_isI1, q_isA1, q_hs0, q_hsn, q_hsi, q_hsr, q_hss, q_inc1, List.set_cons_zero, List.set_cons_succ, ↓reduceIte, q_ss0, q_ssi, q_ssr, q_nr0, q_nr10, q_nr11, q_tlS, q_tlN, q_cl, q_let, q_lef, q_ltt, q_ltf, q_eqt, q_eqf, q_add, q_mul, Nat.reduceAdd, Nat.reduceLeDiff, Nat.reduceEqDiff, eq_self, Nat.zero_le, Nat.le_refl, not_false_eq_true, not_true_eq_false, true_and, and_true, and_self, if_true, if_false]
    exact hQ
  | n + 1, t, h => by
    rw [e94_4]
    have ih := lp94 h61 p1 hT6 hQ n (t + 1) (by omega)
    have e : lfF (fun t => M (c + 1) (t * 5 + 2)) (t + 1) = lfF (fun t => M (c + 1) (t * 5 + 2)) t + (if M (c + 1) (t * 5 + 2) < nI 4 then 0 else 1) := rfl
    rw [e] at ih
    by_cases hh : M (c + 1) (t * 5 + 2) < nI 4
    · rw [if_pos hh] at ih
      simp (disch := first | assumption | omega) only [e94_0, e94_1, e94_2, e94_3, e94_5, e94_6, e94_9, e94_10, e94_11, e94_12, e94_15, e94_16, e94_19, e94_22, e94_25, e94_28, e94_29, q_gv0, q_gvs, q_isI1, q_isA1, q_hs0, q_hsn, q_hsi, q_hsr, q_hss, q_inc1, List.set_cons_zero, List.set_cons_succ, ↓reduceIte, q_ss0, q_ssi, q_ssr, q_nr0, q_nr10, q_nr11, q_tlS, q_tlN, q_cl, q_let, q_lef, q_ltt, q_ltf, q_eqt, q_eqf, q_add, q_mul, Nat.reduceAdd, Nat.reduceLeDiff, Nat.reduceEqDiff, eq_self, Nat.zero_le, Nat.le_refl, not_false_eq_true, not_true_eq_false, true_and, and_true, and_self, if_true, if_false, p1.o, cl61 h61, hh]
      exact ih
    · rw [if_neg hh] at ih
      simp (disch := first | assumption | omega) only [e94_0, e94_1, e94_2, e94_3, e94_5, e94_6, e94_9, e94_10, e94_11, e94_12, e94_15, e94_16, e94_19, e94_22, e94_25, e94_28, e94_29, q_gv0, q_gvs, q_isI1, q_isA1, q_hs0, q_hsn, q_hsi, q_hsr, q_hss, q_inc1, List.set_cons_zero, List.set_cons_succ, ↓reduceIte, q_ss0, q_ssi, q_ssr, q_nr0, q_nr10, q_nr11, q_tlS, q_tlN, q_cl, q_let, q_lef, q_ltt, q_ltf, q_eqt, q_eqf, q_add, q_mul, Nat.reduceAdd, Nat.reduceLeDiff, Nat.reduceEqDiff, eq_self, Nat.zero_le, Nat.le_refl, not_false_eq_true, not_true_eq_false, true_and, and_true, and_self, if_true, if_false, p1.o, cl61 h61, hh]
      exact ih
def sp94 : mv_Sp := fun As sh M Q => ∃ (c : Nat) (n : Nat), As = [.ref c, .int (nI n)] ∧ ((oC sh c) ∧ (n < 7)) ∧ Q (some (.int (nI (lfF (fun t => M (c + 1) (t * 5 + 2)) n)))) (sh) (M)
theorem cl94 {S : Nat → mv_Sp} (hS : S 94 = sp94) {sh : mv_Shp} {M : mv_Mem} {c : Nat} {n : Nat} (p1 : oC sh c) (p2 : n < 7) {K : mv_Kt} {pc : Nat} {L : mv_Loc} {st : List Value} {cc_ ss_ : Nat} : mv_kal S 94 [.ref c, .int (nI n)] sh M K pc L st cc_ ss_ = K pc L ((some (.int (nI (lfF (fun t => M (c + 1) (t * 5 + 2)) n))) : Option Value).toList ++ st) (sh) (M) cc_ ss_ := by
  refine q_kal (fun F => q_cali (fun Q => ?_))
  rw [hS]
  constructor
  · rintro ⟨c', n', hE, ⟨zp1, zp2⟩, hQ⟩
    simp only [List.cons.injEq, Value.ref.injEq, Value.int.injEq, Value.long.injEq, and_true, true_and] at hE
    obtain ⟨rfl, e_n⟩ := hE
    have z_n := nI_inj e_n (by omega) (by omega)
    subst z_n
    exact hQ
  · intro hQ
    exact ⟨c, n, rfl, ⟨p1, p2⟩, hQ⟩
theorem ct94 {S : Nat → mv_Sp} (h61 : S 61 = sp61) : ∀ As sh M P, sp94 As sh M P → (mv_al0 As).length ≤ 4 ∧ mr94 S P 0 (mv_ent As 4) [] sh M 0 0 := by
  rintro As sh M P ⟨c, n, rfl, ⟨p1, p2⟩, hQ⟩
  refine ⟨Nat.le_of_ble_eq_true rfl, ?_⟩
  show mr94 S P 0 [some (.ref c), some (.int (nI n)), none, none] [] sh M 0 0
  simp (disch := first | assumption | omega) only [e94_0, e94_1, e94_2, e94_3, q_gv0, q_gvs, q_isI1, q_isA1, q_hs0, q_hsn, q_hsi, q_hsr, q_hss, q_inc1, List.set_cons_zero, List.set_cons_succ, ↓reduceIte, q_ss0, q_ssi, q_ssr, q_nr0, q_nr10, q_nr11, q_tlS, q_tlN, q_cl, q_let, q_lef, q_ltt, q_ltf, q_eqt, q_eqf, q_add, q_mul, Nat.reduceAdd, Nat.reduceLeDiff, Nat.reduceEqDiff, eq_self, Nat.zero_le, Nat.le_refl, not_false_eq_true, not_true_eq_false, true_and, and_true, and_self, if_true, if_false]
  exact lp94 h61 p1 (by omega) hQ n 0 (by omega)
def sp125 : mv_Sp := fun As sh M Q => ∃ (c : Nat) (a : Nat) (t : Nat) (w : Nat), As = [.ref c, .ref a, .int (nI t), .int (nI w)] ∧ ((oC sh c) ∧ (oL sh a) ∧ (t < 6) ∧ (w < 2) ∧ (∃ k, k < 4 ∧ M (a + 1) t = nI k) ∧ (∃ h, h < 4 ∧ M (c + 1) (t * 5 + 0) = nI h)) ∧ Q (some (.int (if ocF (M (a + 1) t).toNatClampNeg w (M (c + 1) (t * 5 + 1)) (M a 3) = 0 ∧ ¬ M (a + 3) (t * 4 + ((M (c + 1) (t * 5 + 0) + qf (M (a + 1) t).toNatClampNeg w) &&& nI 3).toNatClampNeg) = M (a + 3) (t * 4 + (M (c + 1) (t * 5 + 0)).toNatClampNeg) then nI 1 else nI 0))) (sh) (M)
theorem cl125 {S : Nat → mv_Sp} (hS : S 125 = sp125) {sh : mv_Shp} {M : mv_Mem} {c : Nat} {a : Nat} {t : Nat} {w : Nat} (p1 : oC sh c) (p2 : oL sh a) (p3 : t < 6) (p4 : w < 2) (p5 : ∃ k, k < 4 ∧ M (a + 1) t = nI k) (p6 : ∃ h, h < 4 ∧ M (c + 1) (t * 5 + 0) = nI h) {K : mv_Kt} {pc : Nat} {L : mv_Loc} {st : List Value} {cc_ ss_ : Nat} : mv_kal S 125 [.ref c, .ref a, .int (nI t), .int (nI w)] sh M K pc L st cc_ ss_ = K pc L ((some (.int (if ocF (M (a + 1) t).toNatClampNeg w (M (c + 1) (t * 5 + 1)) (M a 3) = 0 ∧ ¬ M (a + 3) (t * 4 + ((M (c + 1) (t * 5 + 0) + qf (M (a + 1) t).toNatClampNeg w) &&& nI 3).toNatClampNeg) = M (a + 3) (t * 4 + (M (c + 1) (t * 5 + 0)).toNatClampNeg) then nI 1 else nI 0)) : Option Value).toList ++ st) (sh) (M) cc_ ss_ := by
  refine q_kal (fun F => q_cali (fun Q => ?_))
  rw [hS]
  constructor
  · rintro ⟨c', a', t', w', hE, ⟨zp1, zp2, zp3, zp4, zp5, zp6⟩, hQ⟩
    simp only [List.cons.injEq, Value.ref.injEq, Value.int.injEq, Value.long.injEq, and_true, true_and] at hE
    obtain ⟨rfl, rfl, e_t, e_w⟩ := hE
    have z_t := nI_inj e_t (by omega) (by omega)
    subst z_t
    have z_w := nI_inj e_w (by omega) (by omega)
    subst z_w
    exact hQ
  · intro hQ
    exact ⟨c, a, t, w, rfl, ⟨p1, p2, p3, p4, p5, p6⟩, hQ⟩
theorem ct125 {S : Nat → mv_Sp} (h29 : S 29 = sp29) (h60 : S 60 = sp60) (h61 : S 61 = sp61) (h62 : S 62 = sp62) : ∀ As sh M P, sp125 As sh M P → (mv_al0 As).length ≤ 6 ∧ mr125 S P 0 (mv_ent As 6) [] sh M 0 0 := by
  rintro As sh M P ⟨c, a, t, w, rfl, ⟨p1, p2, p3, p4, p5, p6⟩, hQ⟩
  refine ⟨Nat.le_of_ble_eq_true rfl, ?_⟩
  show mr125 S P 0 [some (.ref c), some (.ref a), some (.int (nI t)), some (.int (nI w)), none, none] [] sh M 0 0
  obtain ⟨h, hh, hH⟩ := p6
  rw [hH, q_cl (show h < 2147483648 by omega)] at hQ
  obtain ⟨g, hg, hG⟩ := pk_andE (nI h + qf (M (a + 1) t).toNatClampNeg w) (m := nI 3) 2 (by decide)
  rw [hG, q_cl (show g < 2147483648 by omega)] at hQ
  rcases ocF_lt (M (a + 1) t).toNatClampNeg w (M (c + 1) (t * 5 + 1)) (M a 3) with h0 | h0 | h0
  · by_cases he : M (a + 3) (t * 4 + g) = M (a + 3) (t * 4 + h)
    · rw [if_neg (fun z => z.2 he)] at hQ
      simp (disch := first | assumption | omega) only [e125_0, e125_1, e125_2, e125_3, e125_4, e125_7, e125_10, e125_11, e125_12, e125_13, e125_14, e125_15, e125_18, e125_20, e125_22, e125_23, e125_24, e125_25, e125_28, e125_29, e125_30, e125_31, e125_33, e125_34, e125_35, e125_37, e125_40, e125_41, e125_42, e125_44, e125_47, e125_50, e125_51, e125_54, e125_55, q_gv0, q_gvs, q_isI1, q_isA1, q_hs0, q_hsn, q_hsi, q_hsr, q_hss, q_inc1, List.set_cons_zero, List.set_cons_succ, ↓reduceIte, q_ss0, q_ssi, q_ssr, q_nr0, q_nr10, q_nr11, q_tlS, q_tlN, q_cl, q_let, q_lef, q_ltt, q_ltf, q_eqt, q_eqf, q_add, q_mul, Nat.reduceAdd, Nat.reduceLeDiff, Nat.reduceEqDiff, eq_self, Nat.zero_le, Nat.le_refl, not_false_eq_true, not_true_eq_false, true_and, and_true, and_self, if_true, if_false, p1.o, p2.o, h0, cl62 h62, cl60 h60, cl61 h61, cl29 h29, hH, hG, he]
      exact hQ
    · rw [if_pos ⟨h0, he⟩] at hQ
      simp (disch := first | assumption | omega) only [e125_0, e125_1, e125_2, e125_3, e125_4, e125_7, e125_10, e125_11, e125_12, e125_13, e125_14, e125_15, e125_18, e125_20, e125_22, e125_23, e125_24, e125_25, e125_28, e125_29, e125_30, e125_31, e125_33, e125_34, e125_35, e125_37, e125_40, e125_41, e125_42, e125_44, e125_47, e125_50, e125_51, e125_54, e125_55, q_gv0, q_gvs, q_isI1, q_isA1, q_hs0, q_hsn, q_hsi, q_hsr, q_hss, q_inc1, List.set_cons_zero, List.set_cons_succ, ↓reduceIte, q_ss0, q_ssi, q_ssr, q_nr0, q_nr10, q_nr11, q_tlS, q_tlN, q_cl, q_let, q_lef, q_ltt, q_ltf, q_eqt, q_eqf, q_add, q_mul, Nat.reduceAdd, Nat.reduceLeDiff, Nat.reduceEqDiff, eq_self, Nat.zero_le, Nat.le_refl, not_false_eq_true, not_true_eq_false, true_and, and_true, and_self, if_true, if_false, p1.o, p2.o, h0, cl62 h62, cl60 h60, cl61 h61, cl29 h29, hH, hG, he]
      exact hQ
  · rw [h0, if_neg (fun z => absurd z.1 (by decide))] at hQ
    simp (disch := first | assumption | omega) only [e125_0, e125_1, e125_2, e125_3, e125_4, e125_7, e125_10, e125_11, e125_12, e125_13, e125_14, e125_15, e125_18, e125_20, e125_22, e125_23, e125_24, e125_25, e125_28, e125_29, e125_30, e125_31, e125_33, e125_34, e125_35, e125_37, e125_40, e125_41, e125_42, e125_44, e125_47, e125_50, e125_51, e125_54, e125_55, q_gv0, q_gvs, q_isI1, q_isA1, q_hs0, q_hsn, q_hsi, q_hsr, q_hss, q_inc1, List.set_cons_zero, List.set_cons_succ, ↓reduceIte, q_ss0, q_ssi, q_ssr, q_nr0, q_nr10, q_nr11, q_tlS, q_tlN, q_cl, q_let, q_lef, q_ltt, q_ltf, q_eqt, q_eqf, q_add, q_mul, Nat.reduceAdd, Nat.reduceLeDiff, Nat.reduceEqDiff, eq_self, Nat.zero_le, Nat.le_refl, not_false_eq_true, not_true_eq_false, true_and, and_true, and_self, if_true, if_false, p1.o, p2.o, h0, cl62 h62]
    exact hQ
  · rw [h0, if_neg (fun z => absurd z.1 (by decide))] at hQ
    simp (disch := first | assumption | omega) only [e125_0, e125_1, e125_2, e125_3, e125_4, e125_7, e125_10, e125_11, e125_12, e125_13, e125_14, e125_15, e125_18, e125_20, e125_22, e125_23, e125_24, e125_25, e125_28, e125_29, e125_30, e125_31, e125_33, e125_34, e125_35, e125_37, e125_40, e125_41, e125_42, e125_44, e125_47, e125_50, e125_51, e125_54, e125_55, q_gv0, q_gvs, q_isI1, q_isA1, q_hs0, q_hsn, q_hsi, q_hsr, q_hss, q_inc1, List.set_cons_zero, List.set_cons_succ, ↓reduceIte, q_ss0, q_ssi, q_ssr, q_nr0, q_nr10, q_nr11, q_tlS, q_tlN, q_cl, q_let, q_lef, q_ltt, q_ltf, q_eqt, q_eqf, q_add, q_mul, Nat.reduceAdd, Nat.reduceLeDiff, Nat.reduceEqDiff, eq_self, Nat.zero_le, Nat.le_refl, not_false_eq_true, not_true_eq_false, true_and, and_true, and_self, if_true, if_false, p1.o, p2.o, h0, cl62 h62]
    exact hQ
