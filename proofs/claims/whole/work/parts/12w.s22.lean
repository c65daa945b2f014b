/-! ways counted -/
theorem lp135 {S : Nat → mv_Sp} (h111 : S 111 = sp111) (h113 : S 113 = sp113) (h134 : S 134 = sp134) {sh : mv_Shp} {P : mv_Post} {a o b y N B : Nat} {x : Int32} (p1 : oS sh a) (p2 : oL sh o) (p3 : o + 6 < a) (hN : N < 13) (hb : sh[b]? = some (.inl (0, B))) (hB : B < 100000) (hy : y ≤ B) (hb1 : ¬ b = a + 1) (hb2 : ¬ b = a + 2) :
    ∀ n k (M : mv_Mem), k + n = y → sT M a → (∃ n, n ≤ 6 ∧ M o 0 = nI n) → (∀ i, i < y → ∃ v, v < 2147483648 ∧ M b i = nI v) → P (some (.int (smX (wyI a o b N n k M) a))) sh (wyI a o b N n k M) →
      mr135 S P 36 [some (.ref a), some (.ref o), some (.int x), some (.ref b), some (.int (nI y)), some (.int (nI N)), some (.int (nI k))] [] sh M 0 0 := by
  intro n
  induction n with
  | zero =>
    intro k M h hM hG hV hQ
    obtain rfl : k = y := by omega
    rw [e135_36]
    simp (disch := first | assumption | omega) only [e135_0, e135_1, e135_2, e135_5, e135_7, e135_8, e135_11, e135_12, e135_15, e135_16, e135_19, e135_20, e135_23, e135_26, e135_27, e135_30, e135_31, e135_32, e135_33, e135_34, e135_38, e135_40, e135_43, e135_45, e135_46, e135_47, e135_50, e135_51, e135_53, e135_56, e135_57, e135_58, e135_59, e135_61, e135_62, e135_65, e135_68, e135_71, e135_72, e135_75, q_gv0, q_gvs, q_isI1, q_isA1, q_hs0, q_hsn, q_hsi, q_hsr, q_hss, q_inc1, List.set_cons_zero, List.set_cons_succ, ↓reduceIte, q_ss0, q_ssi, q_ssr, q_nr0, q_nr10, q_nr11, q_tlS, q_tlN, q_cl, q_let, q_lef, q_ltt, q_ltf, q_eqt, q_eqf, q_add, q_mul, Nat.reduceAdd, Nat.reduceLeDiff, Nat.reduceEqDiff, eq_self, Nat.zero_le, Nat.le_refl, not_false_eq_true, not_true_eq_false, true_and, and_true, and_self, if_true, if_false, p1.o, cr113 h113]
    exact hQ
  | succ n IH =>
    intro k M h hM hG hV hQ
    obtain ⟨v, hv, hVv⟩ := hV k (by omega)
    have hkB : k < B := by omega
    have el : ∀ {M : mv_Mem} {K : mv_Kt} {pc : Nat} {L : mv_Loc} {st : List Value} {c s : Nat}, mv_kln sh M b K pc L st c s = K pc L (.int (nI B) :: st) sh M c s := by
      intro M K pc L st c s
      unfold mv_kln mv_nums; rw [hb]; simp
    have es : ∀ {M : mv_Mem} {K : mv_Kt} {pc : Nat} {L : mv_Loc} {st : List Value} {c s : Nat}, mv_kld sh M b (nI k) K pc L st c s = K pc L (.int (M b k) :: st) sh M c s := by
      intro M K pc L st c s
      unfold mv_kld mv_nums; rw [hb]; simp only [q_in hkB (by omega), q_cl (show k < 2147483648 by omega), true_and]
    unfold wyI at hQ
    rw [hVv, q_cl hv] at hQ
    have eb : goM M a N b = M b := goM_out hb1 hb2
    have t1 : sT (goM M a N) a := sT_of hM (goM_out (by omega) (by omega))
    have t2 : sT (ktF (goM M a N) a o v 4096) a := sT_of t1 (ktF_out (by omega) _)
    have g1 : ∃ n, n ≤ 6 ∧ goM M a N o 0 = nI n := by rw [goM_out (by omega) (by omega)]; exact hG
    have g2 : ∃ n, n ≤ 6 ∧ ktF (goM M a N) a o v 4096 o 0 = nI n := by rw [ktF_out (by omega)]; exact g1
    have v2 : ∀ i, i < y → ∃ w, w < 2147483648 ∧ ktF (goM M a N) a o v 4096 b i = nI w := by
      intro i hi
      rw [ktF_out hb2, eb]
      exact hV i hi
    have ih := IH (k + 1) _ (by omega) t2 g2 v2 hQ
    rw [e135_36]
    simp (disch := first | assumption | omega) only [e135_0, e135_1, e135_2, e135_5, e135_7, e135_8, e135_11, e135_12, e135_15, e135_16, e135_19, e135_20, e135_23, e135_26, e135_27, e135_30, e135_31, e135_32, e135_33, e135_34, e135_38, e135_40, e135_43, e135_45, e135_46, e135_47, e135_50, e135_51, e135_53, e135_56, e135_57, e135_58, e135_59, e135_61, e135_62, e135_65, e135_68, e135_71, e135_72, e135_75, q_gv0, q_gvs, q_isI1, q_isA1, q_hs0, q_hsn, q_hsi, q_hsr, q_hss, q_inc1, List.set_cons_zero, List.set_cons_succ, ↓reduceIte, q_ss0, q_ssi, q_ssr, q_nr0, q_nr10, q_nr11, q_tlS, q_tlN, q_cl, q_let, q_lef, q_ltt, q_ltf, q_eqt, q_eqf, q_add, q_mul, Nat.reduceAdd, Nat.reduceLeDiff, Nat.reduceEqDiff, eq_self, Nat.zero_le, Nat.le_refl, not_false_eq_true, not_true_eq_false, true_and, and_true, and_self, if_true, if_false, p1.o, el, es, eb, hVv, cl111 h111, cl134 h134]
    exact ih
def wyM (M : mv_Mem) (a o x b y : Nat) : mv_Mem := wyI a o b (2 * (M o 1).toNatClampNeg) y 0 (mv_up (fiM (tsF M a o (M o 0).toNatClampNeg (M o 1).toNatClampNeg) (a + 2) (nI 0) 4096) (a + 2) x (nI 1))
def sp135 : mv_Sp := fun As sh M Q => ∃ (a : Nat) (o : Nat) (x : Nat) (b : Nat) (y : Nat), As = [.ref a, .ref o, .int (nI x), .ref b, .int (nI y)] ∧ ((oS sh a) ∧ (oL sh o) ∧ (o + 6 < a) ∧ (gL M o) ∧ (sT M a) ∧ (x < 4096) ∧ (y < 7) ∧ (sh[b]? = some (.inl (0, 6))) ∧ (b < a) ∧ (∀ i, i < y → ∃ v, v < 2147483648 ∧ M b i = nI v)) ∧ Q (some (.int (smX (wyM M a o x b y) a))) (sh) (wyM M a o x b y)
theorem cl135 {S : Nat → mv_Sp} (hS : S 135 = sp135) {sh : mv_Shp} {M : mv_Mem} {a : Nat} {o : Nat} {x : Nat} {b : Nat} {y : Nat} (p1 : oS sh a) (p2 : oL sh o) (p3 : o + 6 < a) (p4 : gL M o) (p5 : sT M a) (p6 : x < 4096) (p7 : y < 7) (p8 : sh[b]? = some (.inl (0, 6))) (p9 : b < a) (p10 : ∀ i, i < y → ∃ v, v < 2147483648 ∧ M b i = nI v) {K : mv_Kt} {pc : Nat} {L : mv_Loc} {st : List Value} {cc_ ss_ : Nat} : mv_kal S 135 [.ref a, .ref o, .int (nI x), .ref b, .int (nI y)] sh M K pc L st cc_ ss_ = K pc L ((some (.int (smX (wyM M a o x b y) a)) : Option Value).toList ++ st) (sh) (wyM M a o x b y) cc_ ss_ := by
  refine q_kal (fun F => q_cali (fun Q => ?_))
  rw [hS]
  constructor
  · rintro ⟨a', o', x', b', y', hE, ⟨zp1, zp2, zp3, zp4, zp5, zp6, zp7, zp8, zp9, zp10⟩, hQ⟩
    simp only [List.cons.injEq, Value.ref.injEq, Value.int.injEq, Value.long.injEq, and_true, true_and] at hE
    obtain ⟨rfl, rfl, e_x, rfl, e_y⟩ := hE
    have z_x := nI_inj e_x (by omega) (by omega)
    subst z_x
    have z_y := nI_inj e_y (by omega) (by omega)
    subst z_y
    exact hQ
  · intro hQ
    exact ⟨a, o, x, b, y, rfl, ⟨p1, p2, p3, p4, p5, p6, p7, p8, p9, p10⟩, hQ⟩
theorem ct135 {S : Nat → mv_Sp} (h42 : S 42 = sp42) (h81 : S 81 = sp81) (h111 : S 111 = sp111) (h113 : S 113 = sp113) (h134 : S 134 = sp134) : ∀ As sh M P, sp135 As sh M P → (mv_al0 As).length ≤ 7 ∧ mr135 S P 0 (mv_ent As 7) [] sh M 0 0 := by
  rintro As sh M P ⟨a, o, x, b, y, rfl, ⟨p1, p2, p3, p4, p5, p6, p7, p8, p9, p10⟩, hQ⟩
  refine ⟨Nat.le_of_ble_eq_true rfl, ?_⟩
  show mr135 S P 0 [some (.ref a), some (.ref o), some (.int (nI x)), some (.ref b), some (.int (nI y)), none, none] [] sh M 0 0
  obtain ⟨nT, h6, hT⟩ := p4.1
  obtain ⟨nP, h7, hP⟩ := p4.2.1
  have g0 := p4.1
  have g1 := p4.2.1
  have g4 := p4.2.2.2.2.1
  unfold wyM at hQ
  rw [hT, hP, q_cl (show nT < 2147483648 by omega), q_cl (show nP < 2147483648 by omega)] at hQ
  have z1 := p1.z2
  have e1 : lnS sh (a + 2) = 4096 := lnS_of z1
  have z2 : sh[a + 2]? = some (.inl (0, lnS sh (a + 2))) := by rw [e1]; exact z1
  have z3 : lnS sh (a + 2) < 100000 := by rw [e1]; decide
  have e0 : ∀ {n}, tsF M a o nT n o = M o := tsF_out (by omega) _
  have eb : tsF M a o nT nP b = M b := tsF_out (by omega) _
  have t1 : sT (mv_up (fiM (tsF M a o nT nP) (a + 2) (nI 0) 4096) (a + 2) x (nI 1)) a := sT_of (sT_ts p5 h6 nP) (by rw [q_upO (by omega), fiM_out (by omega)])
  have t2 : ∃ n, n ≤ 6 ∧ mv_up (fiM (tsF M a o nT nP) (a + 2) (nI 0) 4096) (a + 2) x (nI 1) o 0 = nI n := ⟨nT, h6, by rw [q_upO (by omega), fiM_out (by omega), e0]; exact hT⟩
  have t3 : ∀ i, i < y → ∃ v, v < 2147483648 ∧ mv_up (fiM (tsF M a o nT nP) (a + 2) (nI 0) 4096) (a + 2) x (nI 1) b i = nI v := by
    intro i hi
    rw [q_upO (by omega), fiM_out (by omega), eb]
    exact p10 i hi
  simp (disch := first | assumption | omega) only [e135_0, e135_1, e135_2, e135_5, e135_7, e135_8, e135_11, e135_12, e135_15, e135_16, e135_19, e135_20, e135_23, e135_26, e135_27, e135_30, e135_31, e135_32, e135_33, e135_34, q_gv0, q_gvs, q_isI1, q_isA1, q_hs0, q_hsn, q_hsi, q_hsr, q_hss, q_inc1, List.set_cons_zero, List.set_cons_succ, ↓reduceIte, q_ss0, q_ssi, q_ssr, q_nr0, q_nr10, q_nr11, q_tlS, q_tlN, q_cl, q_let, q_lef, q_ltt, q_ltf, q_eqt, q_eqf, q_add, q_mul, Nat.reduceAdd, Nat.reduceLeDiff, Nat.reduceEqDiff, eq_self, Nat.zero_le, Nat.le_refl, not_false_eq_true, not_true_eq_false, true_and, and_true, and_self, if_true, if_false, p1.o, p1.g1, p1.s2, cl42 h42, cl81 h81, e0, e1, hT, hP]
  exact lp135 h111 h113 h134 p1 p2 p3 (show 2 * nP < 13 by omega) p8 (by decide) (by omega) (by omega) (by omega) y 0 _ (by omega) t1 t2 t3 hQ
