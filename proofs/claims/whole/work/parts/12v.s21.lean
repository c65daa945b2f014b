/-! starts counted, ways counted -/
theorem gbI_out {a i b : Nat} (h : ¬ b = a + 2) : ∀ n s M, gbI a i n s M b = M b
  | 0, _, _ => rfl
  | n + 1, s, M => by
    unfold gbI
    split
    · rfl
    · rw [gbI_out h n]; exact q_upO h
theorem gbF_out {a N b : Nat} (h : ¬ b = a + 2) : ∀ n i M, gbF a N n i M b = M b
  | 0, _, _ => rfl
  | n + 1, i, M => by unfold gbF; rw [gbF_out h n]; exact gbI_out h _ _ _
theorem goI_out {a i b : Nat} (h : ¬ b = a + 2) : ∀ n s M, goI a i n s M b = M b
  | 0, _, _ => rfl
  | n + 1, s, M => by
    unfold goI
    split
    · rfl
    · rw [goI_out h n]; exact q_upO h
theorem goF_out {a N b : Nat} (h : ¬ b = a + 2) : ∀ n i M, goF a N n i M b = M b
  | 0, _, _ => rfl
  | n + 1, i, M => by unfold goF; rw [goF_out h n]; exact goI_out h _ _ _
theorem moM_out {M : mv_Mem} {a b : Nat} (h1 : ¬ b = a + 1) (h2 : ¬ b = a + 2) : moM M a b = M b := by
  unfold moM
  rw [fiM_out h2, q_wrO h1]
theorem gbM_out {M : mv_Mem} {a N b : Nat} (h1 : ¬ b = a + 1) (h2 : ¬ b = a + 2) : gbM M a N b = M b := by
  unfold gbM
  rw [gbF_out h2, moM_out h1 h2]
theorem goM_out {M : mv_Mem} {a N b : Nat} (h1 : ¬ b = a + 1) (h2 : ¬ b = a + 2) : goM M a N b = M b := by
  unfold goM
  rw [goF_out h2, moM_out h1 h2]
theorem sT_of {M N : mv_Mem} {a : Nat} (h : sT M a) (e : N (a + 3) = M (a + 3)) : sT N a := by
  intro i hi
  rw [e]; exact h i hi
def csF (M : mv_Mem) (a m : Nat) : Nat → mv_Mem
  | 0 => M
  | i + 1 => mv_up (csF M a m i) (a + 2) i (nI (if i < m then 1 else 0))
theorem csF_out {M : mv_Mem} {a m b : Nat} (h : ¬ b = a + 2) : ∀ n, csF M a m n b = M b
  | 0 => rfl
  | n + 1 => by unfold csF; rw [q_upO h]; exact csF_out h n
def cdI (a o b N : Nat) : Nat → mv_Mem → mv_Mem
  | 0, M => M
  | k + 1, M => cdI a o b N k (gbM (ktF M a o (M b k).toNatClampNeg 4096) a N)
def wyI (a o b N : Nat) : Nat → Nat → mv_Mem → mv_Mem
  | 0, _, M => M
  | n + 1, k, M => wyI a o b N n (k + 1) (ktF (goM M a N) a o (M b k).toNatClampNeg 4096)
theorem four : ∀ k : Fin 7, nI 1 <<< (nI (2 * k.1) &&& 31) = nI (4 ^ k.1) ∧ 4 ^ k.1 ≤ 4096 := by decide +kernel
def smX (M : mv_Mem) (a : Nat) : Int32 := smF (M (a + 2)) 4096
theorem cr113 {S : Nat → mv_Sp} (h : S 113 = sp113) {sh : mv_Shp} {M : mv_Mem} {a : Nat} {K : mv_Kt} {pc : Nat} {L : mv_Loc} {st : List Value} {c s : Nat} (p1 : oS sh a) :
    mv_kal S 113 [.ref a] sh M K pc L st c s = K pc L ((some (.int (smX M a))).toList ++ st) sh M c s := cl113 h p1
theorem lp114a {S : Nat → mv_Sp} {sh : mv_Shp} {M : mv_Mem} {P : mv_Post} {a o b y N m : Nat} (p1 : oS sh a) (hm : m ≤ 4096) (hQ : ∀ z, mr114 S P 59 [some (.ref a), some (.ref o), some (.ref b), some (.int (nI y)), some (.int (nI N)), some (.int (nI m)), z] [] sh (csF M a m 4096) 0 0) :
    ∀ n i, i + n = 4096 → mr114 S P 26 [some (.ref a), some (.ref o), some (.ref b), some (.int (nI y)), some (.int (nI N)), some (.int (nI m)), some (.int (nI i))] [] sh (csF M a m i) 0 0
  | 0, i, h => by
    obtain rfl : i = 4096 := by omega
    rw [e114_26]
    simp (disch := first | assumption | omega) only [e114_0, e114_1, e114_2, e114_5, e114_7, e114_8, e114_9, e114_10, e114_13, e114_14, e114_15, e114_18, e114_21, e114_23, e114_24, e114_28, e114_31, e114_34, e114_35, e114_38, e114_40, e114_42, e114_44, e114_47, e114_48, e114_51, e114_52, e114_53, e114_56, e114_60, e114_61, e114_62, e114_65, e114_66, e114_67, e114_69, e114_71, e114_74, e114_75, e114_76, e114_77, e114_79, e114_80, e114_83, e114_84, e114_86, e114_89, e114_92, e114_95, e114_96, e114_99, q_gv0, q_gvs, q_isI1, q_isA1, q_hs0, q_hsn, q_hsi, q_hsr, q_hss, q_inc1, List.set_cons_zero, List.set_cons_succ, ↓reduceIte, q_ss0, q_ssi, q_ssr, q_nr0, q_nr10, q_nr11, q_tlS, q_tlN, q_cl, q_let, q_lef, q_ltt, q_ltf, q_eqt, q_eqf, q_add, q_mul, Nat.reduceAdd, Nat.reduceLeDiff, Nat.reduceEqDiff, eq_self, Nat.zero_le, Nat.le_refl, not_false_eq_true, not_true_eq_false, true_and, and_true, and_self, if_true, if_false]
    exact hQ _
  | n + 1, i, h => by
    have ih := lp114a p1 hm hQ n (i + 1) (by omega)
    unfold csF at ih
    rw [e114_26]
    by_cases c : i < m
    · rw [if_pos c] at ih
      simp (disch := first | assumption | omega) only [e114_0, e114_1, e114_2, e114_5, e114_7, e114_8, e114_9, e114_10, e114_13, e114_14, e114_15, e114_18, e114_21, e114_23, e114_24, e114_28, e114_31, e114_34, e114_35, e114_38, e114_40, e114_42, e114_44, e114_47, e114_48, e114_51, e114_52, e114_53, e114_56, e114_60, e114_61, e114_62, e114_65, e114_66, e114_67, e114_69, e114_71, e114_74, e114_75, e114_76, e114_77, e114_79, e114_80, e114_83, e114_84, e114_86, e114_89, e114_92, e114_95, e114_96, e114_99, q_gv0, q_gvs, q_isI1, q_isA1, q_hs0, q_hsn, q_hsi, q_hsr, q_hss, q_inc1, List.set_cons_zero, List.set_cons_succ, ↓reduceIte, q_ss0, q_ssi, q_ssr, q_nr0, q_nr10, q_nr11, q_tlS, q_tlN, q_cl, q_let, q_lef, q_ltt, q_ltf, q_eqt, q_eqf, q_add, q_mul, Nat.reduceAdd, Nat.reduceLeDiff, Nat.reduceEqDiff, eq_self, Nat.zero_le, Nat.le_refl, not_false_eq_true, not_true_eq_false, true_and, and_true, and_self, if_true, if_false, p1.g1, p1.s2]
      exact ih
    · rw [if_neg c] at ih
      simp (disch := first | assumption | omega) only [e114_0, e114_1, e114_2, e114_5, e114_7, e114_8, e114_9, e114_10, e114_13, e114_14, e114_15, e114_18, e114_21, e114_23, e114_24, e114_28, e114_31, e114_34, e114_35, e114_38, e114_40, e114_42, e114_44, e114_47, e114_48, e114_51, e114_52, e114_53, e114_56, e114_60, e114_61, e114_62, e114_65, e114_66, e114_67, e114_69, e114_71, e114_74, e114_75, e114_76, e114_77, e114_79, e114_80, e114_83, e114_84, e114_86, e114_89, e114_92, e114_95, e114_96, e114_99, q_gv0, q_gvs, q_isI1, q_isA1, q_hs0, q_hsn, q_hsi, q_hsr, q_hss, q_inc1, List.set_cons_zero, List.set_cons_succ, ↓reduceIte, q_ss0, q_ssi, q_ssr, q_nr0, q_nr10, q_nr11, q_tlS, q_tlN, q_cl, q_let, q_lef, q_ltt, q_ltf, q_eqt, q_eqf, q_add, q_mul, Nat.reduceAdd, Nat.reduceLeDiff, Nat.reduceEqDiff, eq_self, Nat.zero_le, Nat.le_refl, not_false_eq_true, not_true_eq_false, true_and, and_true, and_self, if_true, if_false, p1.g1, p1.s2]
      exact ih
theorem lp114b {S : Nat → mv_Sp} (h111 : S 111 = sp111) (h112 : S 112 = sp112) (h113 : S 113 = sp113) {sh : mv_Shp} {P : mv_Post} {a o b y N m B : Nat} (p1 : oS sh a) (p2 : oL sh o) (p3 : o + 6 < a) (hN : N < 13) (hb : sh[b]? = some (.inl (0, B))) (hB : B < 100000) (hb1 : ¬ b = a + 1) (hb2 : ¬ b = a + 2) :
    ∀ k (M : mv_Mem), k ≤ B → sT M a → (∃ n, n ≤ 6 ∧ M o 0 = nI n) → (∀ i, i < k → ∃ v, v < 2147483648 ∧ M b i = nI v) → P (some (.int (smX (cdI a o b N k M) a))) sh (cdI a o b N k M) →
      mr114 S P 69 [some (.ref a), some (.ref o), some (.ref b), some (.int (nI y)), some (.int (nI N)), some (.int (nI m)), some (.int (nI k + Int32.ofInt (-1)))] [] sh M 0 0 := by
  intro k
  induction k with
  | zero =>
    intro M h hM hG hV hQ
    rw [e114_69]
    simp (disch := first | assumption | omega) only [e114_0, e114_1, e114_2, e114_5, e114_7, e114_8, e114_9, e114_10, e114_13, e114_14, e114_15, e114_18, e114_21, e114_23, e114_24, e114_26, e114_28, e114_31, e114_34, e114_35, e114_38, e114_40, e114_42, e114_44, e114_47, e114_48, e114_51, e114_52, e114_53, e114_56, e114_59, e114_60, e114_61, e114_62, e114_65, e114_66, e114_67, e114_71, e114_74, e114_75, e114_76, e114_77, e114_79, e114_80, e114_83, e114_84, e114_86, e114_89, e114_92, e114_95, e114_96, e114_99, q_gv0, q_gvs, q_isI1, q_isA1, q_hs0, q_hsn, q_hsi, q_hsr, q_hss, q_inc1, List.set_cons_zero, List.set_cons_succ, ↓reduceIte, q_ss0, q_ssi, q_ssr, q_nr0, q_nr10, q_nr11, q_tlS, q_tlN, q_cl, q_let, q_lef, q_ltt, q_ltf, q_eqt, q_eqf, q_add, q_mul, Nat.reduceAdd, Nat.reduceLeDiff, Nat.reduceEqDiff, eq_self, Nat.zero_le, Nat.le_refl, not_false_eq_true, not_true_eq_false, true_and, and_true, and_self, if_true, if_false, q_dec0, q_m1lt, p1.o, cr113 h113]
    exact hQ
  | succ k IH =>
    intro M h hM hG hV hQ
    obtain ⟨v, hv, hVv⟩ := hV k (by omega)
    have hkB : k < B := by omega
    have es : ∀ {M : mv_Mem} {K : mv_Kt} {pc : Nat} {L : mv_Loc} {st : List Value} {c s : Nat}, mv_kld sh M b (nI k) K pc L st c s = K pc L (.int (M b k) :: st) sh M c s := by
      intro M K pc L st c s
      unfold mv_kld mv_nums; rw [hb]; simp only [q_in hkB (by omega), q_cl (show k < 2147483648 by omega), true_and]
    unfold cdI at hQ
    rw [hVv, q_cl hv] at hQ
    have t1 : sT (ktF M a o v 4096) a := sT_of hM (ktF_out (by omega) _)
    have t2 : sT (gbM (ktF M a o v 4096) a N) a := sT_of t1 (gbM_out (by omega) (by omega))
    have g2 : ∃ n, n ≤ 6 ∧ gbM (ktF M a o v 4096) a N o 0 = nI n := by rw [gbM_out (by omega) (by omega), ktF_out (by omega)]; exact hG
    have v2 : ∀ i, i < k → ∃ w, w < 2147483648 ∧ gbM (ktF M a o v 4096) a N b i = nI w := by
      intro i hi
      rw [gbM_out hb1 hb2, ktF_out hb2]
      exact hV i (by omega)
    have ih := IH _ (by omega) t2 g2 v2 hQ
    rw [e114_69]
    simp (disch := first | assumption | omega) only [e114_0, e114_1, e114_2, e114_5, e114_7, e114_8, e114_9, e114_10, e114_13, e114_14, e114_15, e114_18, e114_21, e114_23, e114_24, e114_26, e114_28, e114_31, e114_34, e114_35, e114_38, e114_40, e114_42, e114_44, e114_47, e114_48, e114_51, e114_52, e114_53, e114_56, e114_59, e114_60, e114_61, e114_62, e114_65, e114_66, e114_67, e114_71, e114_74, e114_75, e114_76, e114_77, e114_79, e114_80, e114_83, e114_84, e114_86, e114_89, e114_92, e114_95, e114_96, e114_99, q_gv0, q_gvs, q_isI1, q_isA1, q_hs0, q_hsn, q_hsi, q_hsr, q_hss, q_inc1, List.set_cons_zero, List.set_cons_succ, ↓reduceIte, q_ss0, q_ssi, q_ssr, q_nr0, q_nr10, q_nr11, q_tlS, q_tlN, q_cl, q_let, q_lef, q_ltt, q_ltf, q_eqt, q_eqf, q_add, q_mul, Nat.reduceAdd, Nat.reduceLeDiff, Nat.reduceEqDiff, eq_self, Nat.zero_le, Nat.le_refl, not_false_eq_true, not_true_eq_false, true_and, and_true, and_self, if_true, if_false, q_dec, p1.o, es, hVv, cl111 h111, cl112 h112]
    exact ih
def csM (M : mv_Mem) (a o b y : Nat) : mv_Mem := cdI a o b (2 * (M o 1).toNatClampNeg) y (csF (tsF M a o (M o 0).toNatClampNeg (M o 1).toNatClampNeg) a (4 ^ (M o 0).toNatClampNeg) 4096)
theorem m1s : ∀ k : Fin 7, nI k.1 - nI 1 = nI k.1 + Int32.ofInt (-1) := by decide +kernel
def sp114 : mv_Sp := fun As sh M Q => ∃ (a : Nat) (o : Nat) (b : Nat) (y : Nat), As = [.ref a, .ref o, .ref b, .int (nI y)] ∧ ((oS sh a) ∧ (oL sh o) ∧ (o + 6 < a) ∧ (gL M o) ∧ (sT M a) ∧ (y < 7) ∧ (sh[b]? = some (.inl (0, 6))) ∧ (b < a) ∧ (∀ i, i < y → ∃ v, v < 2147483648 ∧ M b i = nI v)) ∧ Q (some (.int (smX (csM M a o b y) a))) (sh) (csM M a o b y)
theorem cl114 {S : Nat → mv_Sp} (hS : S 114 = sp114) {sh : mv_Shp} {M : mv_Mem} {a : Nat} {o : Nat} {b : Nat} {y : Nat} (p1 : oS sh a) (p2 : oL sh o) (p3 : o + 6 < a) (p4 : gL M o) (p5 : sT M a) (p6 : y < 7) (p7 : sh[b]? = some (.inl (0, 6))) (p8 : b < a) (p9 : ∀ i, i < y → ∃ v, v < 2147483648 ∧ M b i = nI v) {K : mv_Kt} {pc : Nat} {L : mv_Loc} {st : List Value} {cc_ ss_ : Nat} : mv_kal S 114 [.ref a, .ref o, .ref b, .int (nI y)] sh M K pc L st cc_ ss_ = K pc L ((some (.int (smX (csM M a o b y) a)) : Option Value).toList ++ st) (sh) (csM M a o b y) cc_ ss_ := by
  refine q_kal (fun F => q_cali (fun Q => ?_))
  rw [hS]
  constructor
  · rintro ⟨a', o', b', y', hE, ⟨zp1, zp2, zp3, zp4, zp5, zp6, zp7, zp8, zp9⟩, hQ⟩
    simp only [List.cons.injEq, Value.ref.injEq, Value.int.injEq, Value.long.injEq, and_true, true_and] at hE
    obtain ⟨rfl, rfl, rfl, e_y⟩ := hE
    have z_y := nI_inj e_y (by omega) (by omega)
    subst z_y
    exact hQ
  · intro hQ
    exact ⟨a, o, b, y, rfl, ⟨p1, p2, p3, p4, p5, p6, p7, p8, p9⟩, hQ⟩
theorem ct114 {S : Nat → mv_Sp} (h81 : S 81 = sp81) (h111 : S 111 = sp111) (h112 : S 112 = sp112) (h113 : S 113 = sp113) : ∀ As sh M P, sp114 As sh M P → (mv_al0 As).length ≤ 7 ∧ mr114 S P 0 (mv_ent As 7) [] sh M 0 0 := by
  rintro As sh M P ⟨a, o, b, y, rfl, ⟨p1, p2, p3, p4, p5, p6, p7, p8, p9⟩, hQ⟩
  refine ⟨Nat.le_of_ble_eq_true rfl, ?_⟩
  show mr114 S P 0 [some (.ref a), some (.ref o), some (.ref b), some (.int (nI y)), none, none, none] [] sh M 0 0
  obtain ⟨nT, h6, hT⟩ := p4.1
  obtain ⟨nP, h7, hP⟩ := p4.2.1
  have g0 := p4.1
  have g1 := p4.2.1
  have g4 := p4.2.2.2.2.1
  unfold csM at hQ
  rw [hT, hP, q_cl (show nT < 2147483648 by omega), q_cl (show nP < 2147483648 by omega)] at hQ
  have f1 : nI 1 <<< (nI (2 * nT) &&& 31) = nI (4 ^ nT) := (four ⟨nT, by omega⟩).1
  have f2 : 4 ^ nT ≤ 4096 := (four ⟨nT, by omega⟩).2
  have f3 : (nI 4096 < nI (4 ^ nT)) = False := q_ltf f2 (by omega)
  have em : nI y - nI 1 = nI y + Int32.ofInt (-1) := m1s ⟨y, p6⟩
  have el : ∀ {M : mv_Mem} {K : mv_Kt} {pc : Nat} {L : mv_Loc} {st : List Value} {c s : Nat}, mv_kln sh M b K pc L st c s = K pc L (.int (nI 6) :: st) sh M c s := by
    intro M K pc L st c s
    unfold mv_kln mv_nums; rw [p7]; simp
  have e0 : ∀ {n}, tsF M a o nT n o = M o := tsF_out (by omega) _
  have eb : tsF M a o nT nP b = M b := tsF_out (by omega) _
  have t1 : sT (csF (tsF M a o nT nP) a (4 ^ nT) 4096) a := sT_of (sT_ts p5 h6 nP) (csF_out (by omega) _)
  have t2 : ∃ n, n ≤ 6 ∧ csF (tsF M a o nT nP) a (4 ^ nT) 4096 o 0 = nI n := ⟨nT, h6, by rw [csF_out (by omega), e0]; exact hT⟩
  have t3 : ∀ i, i < y → ∃ v, v < 2147483648 ∧ csF (tsF M a o nT nP) a (4 ^ nT) 4096 b i = nI v := by
    intro i hi
    rw [csF_out (by omega), eb]
    exact p9 i hi
  simp (disch := first | assumption | omega) only [e114_0, e114_1, e114_2, e114_5, e114_7, e114_8, e114_9, e114_10, e114_13, e114_14, e114_15, e114_18, e114_21, e114_23, e114_24, q_gv0, q_gvs, q_isI1, q_isA1, q_hs0, q_hsn, q_hsi, q_hsr, q_hss, q_inc1, List.set_cons_zero, List.set_cons_succ, ↓reduceIte, q_ss0, q_ssi, q_ssr, q_nr0, q_nr10, q_nr11, q_tlS, q_tlN, q_cl, q_let, q_lef, q_ltt, q_ltf, q_eqt, q_eqf, q_add, q_mul, Nat.reduceAdd, Nat.reduceLeDiff, Nat.reduceEqDiff, eq_self, Nat.zero_le, Nat.le_refl, not_false_eq_true, not_true_eq_false, true_and, and_true, and_self, if_true, if_false, p1.o, p2.g0, cl81 h81, e0, hT, hP, f1, f3]
  refine lp114a p1 f2 (fun z => ?_) 4096 0 (by omega)
  generalize csF (tsF M a o nT nP) a (4 ^ nT) 4096 = N at hQ t1 t2 t3 ⊢
  simp (disch := first | assumption | omega) only [e114_59, e114_60, e114_61, e114_62, e114_65, e114_66, e114_67, q_gv0, q_gvs, q_isI1, q_isA1, q_hs0, q_hsn, q_hsi, q_hsr, q_hss, q_inc1, List.set_cons_zero, List.set_cons_succ, ↓reduceIte, q_ss0, q_ssi, q_ssr, q_nr0, q_nr10, q_nr11, q_tlS, q_tlN, q_cl, q_let, q_lef, q_ltt, q_ltf, q_eqt, q_eqf, q_add, q_mul, Nat.reduceAdd, Nat.reduceLeDiff, Nat.reduceEqDiff, eq_self, Nat.zero_le, Nat.le_refl, not_false_eq_true, not_true_eq_false, true_and, and_true, and_self, if_true, if_false, el, em]
  exact lp114b h111 h112 h113 p1 p2 p3 (show 2 * nP < 13 by omega) p7 (by decide) (by omega) (by omega) y N (by omega) t1 t2 t3 hQ
