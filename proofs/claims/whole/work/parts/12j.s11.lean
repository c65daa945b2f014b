/-! a text laid on the loom -/
def lcM (M : mv_Mem) (a o : Nat) : mv_Mem :=
  mv_wr (mv_wr (mv_wr (mv_wr (mv_wr (mv_wr (mv_up (mv_up (mv_up (mv_up M a 0 (M o 0)) a 1 (M o 1)) a 2 (M o 2)) a 3 (M o 3))
    (a + 1) (va_cpy (M (o + 1)) (M (a + 1)) 0 0 6)) (a + 2) (va_cpy (M (o + 2)) (M (a + 2)) 0 0 6)) (a + 3) (va_cpy (M (o + 3)) (M (a + 3)) 0 0 24)) (a + 4) (va_cpy (M (o + 4)) (M (a + 4)) 0 0 24)) (a + 5) (va_cpy (M (o + 5)) (M (a + 5)) 0 0 6)) (a + 6) (va_cpy (M (o + 6)) (M (a + 6)) 0 0 8)
def sp41 : mv_Sp := fun As sh M Q => ∃ (a : Nat) (o : Nat), As = [.ref a, .ref o] ∧ ((oL sh a) ∧ (oL sh o) ∧ (a + 6 < o)) ∧ Q (none) (sh) (lcM M a o)
theorem cl41 {S : Nat → mv_Sp} (hS : S 41 = sp41) {sh : mv_Shp} {M : mv_Mem} {a : Nat} {o : Nat} (p1 : oL sh a) (p2 : oL sh o) (p3 : a + 6 < o) {K : mv_Kt} {pc : Nat} {L : mv_Loc} {st : List Value} {cc_ ss_ : Nat} : mv_kal S 41 [.ref a, .ref o] sh M K pc L st cc_ ss_ = K pc L ((none : Option Value).toList ++ st) (sh) (lcM M a o) cc_ ss_ := by
  refine q_kal (fun F => q_cali (fun Q => ?_))
  rw [hS]
  constructor
  · rintro ⟨a', o', hE, ⟨zp1, zp2, zp3⟩, hQ⟩
    simp only [List.cons.injEq, Value.ref.injEq, Value.int.injEq, Value.long.injEq, and_true, true_and] at hE
    obtain ⟨rfl, rfl⟩ := hE
    exact hQ
  · intro hQ
    exact ⟨a, o, rfl, ⟨p1, p2, p3⟩, hQ⟩
theorem ct41 {S : Nat → mv_Sp}  : ∀ As sh M P, sp41 As sh M P → (mv_al0 As).length ≤ 2 ∧ mr41 S P 0 (mv_ent As 2) [] sh M 0 0 := by
  rintro As sh M P ⟨a, o, rfl, ⟨p1, p2, p3⟩, hQ⟩
  refine ⟨Nat.le_of_ble_eq_true rfl, ?_⟩
  show mr41 S P 0 [some (.ref a), some (.ref o)] [] sh M 0 0
  unfold lcM at hQ
  simp (disch := first | assumption | omega) only [e41_0, e41_1, e41_2, e41_5, e41_8, e41_9, e41_10, e41_13, e41_16, e41_17, e41_18, e41_21, e41_24, e41_25, e41_26, e41_29, e41_32, e41_33, e41_36, e41_37, e41_38, e41_41, e41_42, e41_44, e41_47, e41_48, e41_51, e41_52, e41_53, e41_56, e41_57, e41_59, e41_62, e41_63, e41_66, e41_67, e41_68, e41_71, e41_72, e41_74, e41_77, e41_78, e41_81, e41_82, e41_83, e41_86, e41_87, e41_89, e41_92, e41_93, e41_96, e41_97, e41_98, e41_101, e41_102, e41_104, e41_107, e41_108, e41_111, e41_112, e41_113, e41_116, e41_117, e41_119, e41_122, q_gv0, q_gvs, q_isI1, q_isA1, q_hs0, q_hsn, q_hsi, q_hsr, q_hss, q_inc1, List.set_cons_zero, List.set_cons_succ, ↓reduceIte, q_ss0, q_ssi, q_ssr, q_nr0, q_nr10, q_nr11, q_tlS, q_tlN, q_cl, q_let, q_lef, q_ltt, q_ltf, q_eqt, q_eqf, q_add, q_mul, Nat.reduceAdd, Nat.reduceLeDiff, Nat.reduceEqDiff, eq_self, Nat.zero_le, Nat.le_refl, not_false_eq_true, not_true_eq_false, true_and, and_true, and_self, if_true, if_false, p2.g0, p2.g1, p2.g2, p2.g3, p2.g4, p2.g5, p2.g6, p2.g7, p2.g8, p2.g9, p1.p0, p1.p1, p1.p2, p1.p3, p1.g4, p1.g5, p1.g6, p1.g7, p1.g8, p1.g9, q_kcp p2.z1 p1.z1, q_kcp p2.z2 p1.z2, q_kcp p2.z3 p1.z3, q_kcp p2.z4 p1.z4, q_kcp p2.z5 p1.z5, q_kcp p2.z6 p1.z6, q_upO, q_wrO, q_upS]
  exact hQ
/-- an array's length -/
def lnS (sh : mv_Shp) (a : Nat) : Nat := match sh[a]? with
  | some (.inl (_, n)) => n
  | _ => 0
theorem lnS_of {sh : mv_Shp} {a t n : Nat} (h : sh[a]? = some (.inl (t, n))) : lnS sh a = n := by unfold lnS; rw [h]
def fiM (M : mv_Mem) (a : Nat) (v : Int32) : Nat → mv_Mem
  | 0 => M
  | n + 1 => mv_up (fiM M a v n) a n v
theorem lp42 {S : Nat → mv_Sp} {sh : mv_Shp} {M : mv_Mem} {P : mv_Post} {a N : Nat} {v : Int32} (p1 : sh[a]? = some (.inl (0, N))) (hN : N < 100000) (hQ : P none sh (fiM M a v N)) : ∀ n k, k + n = N → mr42 S P 5 [some (.ref a), some (.int v), some (.int (nI k)), some (.int (nI N))] [] sh (fiM M a v k) 0 0
  | 0, k, hk => by
    obtain rfl : k = N := by omega
    rw [e42_5]
    simp (disch := first | assumption | omega) only [e42_0, e42_1, e42_2, e42_3, e42_4, e42_6, e42_7, e42_10, e42_11, e42_12, e42_13, e42_14, e42_17, e42_20, q_gv0, q_gvs, q_isI1, q_isA1, q_hs0, q_hsn, q_hsi, q_hsr, q_hss, q_inc1, List.set_cons_zero, List.set_cons_succ, ↓reduceIte, q_ss0, q_ssi, q_ssr, q_nr0, q_nr10, q_nr11, q_tlS, q_tlN, q_cl, q_let, q_lef, q_ltt, q_ltf, q_eqt, q_eqf, q_add, q_mul, Nat.reduceAdd, Nat.reduceLeDiff, Nat.reduceEqDiff, eq_self, Nat.zero_le, Nat.le_refl, not_false_eq_true, not_true_eq_false, true_and, and_true, and_self, if_true, if_false]
    exact hQ
  | n + 1, k, hk => by
    have hkN : k < N := by omega
    have es : ∀ {x : Int32} {M : mv_Mem} {K : mv_Kt} {pc : Nat} {L : mv_Loc} {st : List Value} {c s : Nat}, mv_kst sh M a (nI k) x K pc L st c s = K pc L st sh (mv_up M a k x) c s := by
      intro x M K pc L st c s
      unfold mv_kst mv_nums; rw [p1]; simp only [q_in hkN (by omega), q_cl (show k < 2147483648 by omega), true_and]
    rw [e42_5]
    simp (disch := first | assumption | omega) only [e42_0, e42_1, e42_2, e42_3, e42_4, e42_6, e42_7, e42_10, e42_11, e42_12, e42_13, e42_14, e42_17, e42_20, q_gv0, q_gvs, q_isI1, q_isA1, q_hs0, q_hsn, q_hsi, q_hsr, q_hss, q_inc1, List.set_cons_zero, List.set_cons_succ, ↓reduceIte, q_ss0, q_ssi, q_ssr, q_nr0, q_nr10, q_nr11, q_tlS, q_tlN, q_cl, q_let, q_lef, q_ltt, q_ltf, q_eqt, q_eqf, q_add, q_mul, Nat.reduceAdd, Nat.reduceLeDiff, Nat.reduceEqDiff, eq_self, Nat.zero_le, Nat.le_refl, not_false_eq_true, not_true_eq_false, true_and, and_true, and_self, if_true, if_false, es]
    exact lp42 p1 hN hQ n (k + 1) (by omega)
def sp42 : mv_Sp := fun As sh M Q => ∃ (a : Nat) (v : Int32), As = [.ref a, .int v] ∧ ((sh[a]? = some (.inl (0, lnS sh a))) ∧ (lnS sh a < 100000)) ∧ Q (none) (sh) (fiM M a v (lnS sh a))
theorem cl42 {S : Nat → mv_Sp} (hS : S 42 = sp42) {sh : mv_Shp} {M : mv_Mem} {a : Nat} {v : Int32} (p1 : sh[a]? = some (.inl (0, lnS sh a))) (p2 : lnS sh a < 100000) {K : mv_Kt} {pc : Nat} {L : mv_Loc} {st : List Value} {cc_ ss_ : Nat} : mv_kal S 42 [.ref a, .int v] sh M K pc L st cc_ ss_ = K pc L ((none : Option Value).toList ++ st) (sh) (fiM M a v (lnS sh a)) cc_ ss_ := by
  refine q_kal (fun F => q_cali (fun Q => ?_))
  rw [hS]
  constructor
  · rintro ⟨a', v', hE, ⟨zp1, zp2⟩, hQ⟩
    simp only [List.cons.injEq, Value.ref.injEq, Value.int.injEq, Value.long.injEq, and_true, true_and] at hE
    obtain ⟨rfl, rfl⟩ := hE
    exact hQ
  · intro hQ
    exact ⟨a, v, rfl, ⟨p1, p2⟩, hQ⟩
theorem ct42 {S : Nat → mv_Sp}  : ∀ As sh M P, sp42 As sh M P → (mv_al0 As).length ≤ 4 ∧ mr42 S P 0 (mv_ent As 4) [] sh M 0 0 := by
  rintro As sh M P ⟨a, v, rfl, ⟨p1, p2⟩, hQ⟩
  refine ⟨Nat.le_of_ble_eq_true rfl, ?_⟩
  show mr42 S P 0 [some (.ref a), some (.int v), none, none] [] sh M 0 0
  have el : ∀ {M : mv_Mem} {K : mv_Kt} {pc : Nat} {L : mv_Loc} {st : List Value} {c s : Nat}, mv_kln sh M a K pc L st c s = K pc L (.int (nI (lnS sh a)) :: st) sh M c s := by
    intro M K pc L st c s
    unfold mv_kln mv_nums; rw [p1]; simp
  simp (disch := first | assumption | omega) only [e42_0, e42_1, e42_2, e42_3, e42_4, q_gv0, q_gvs, q_isI1, q_isA1, q_hs0, q_hsn, q_hsi, q_hsr, q_hss, q_inc1, List.set_cons_zero, List.set_cons_succ, ↓reduceIte, q_ss0, q_ssi, q_ssr, q_nr0, q_nr10, q_nr11, q_tlS, q_tlN, q_cl, q_let, q_lef, q_ltt, q_ltf, q_eqt, q_eqf, q_add, q_mul, Nat.reduceAdd, Nat.reduceLeDiff, Nat.reduceEqDiff, eq_self, Nat.zero_le, Nat.le_refl, not_false_eq_true, not_true_eq_false, true_and, and_true, and_self, if_true, if_false, el]
  exact lp42 p1 p2 hQ (lnS sh a) 0 (by omega)
/-- the cloth begun -/
def stM (M : mv_Mem) (c a : Nat) : mv_Mem :=
  mv_up (mv_up (mv_up (mv_up (mv_up (mv_up (mv_up (fiM M (c + 1) (nI 0) 30) (c + 1) (0 * 5 + 3) (M (a + 2) 0)) (c + 1) (1 * 5 + 3) (M (a + 2) 1)) (c + 1) (2 * 5 + 3) (M (a + 2) 2)) (c + 1) (3 * 5 + 3) (M (a + 2) 3)) (c + 1) (4 * 5 + 3) (M (a + 2) 4)) (c + 1) (5 * 5 + 3) (M (a + 2) 5)) c 2 (nI 0)
theorem fiM_out {M : mv_Mem} {a b : Nat} {v : Int32} (h : ¬ b = a) : ∀ n, fiM M a v n b = M b
  | 0 => rfl
  | n + 1 => by unfold fiM; rw [q_upO h]; exact fiM_out h n
def sp45 : mv_Sp := fun As sh M Q => ∃ (c : Nat) (a : Nat), As = [.ref c, .ref a] ∧ ((oC sh c) ∧ (oL sh a) ∧ (a + 6 < c)) ∧ Q (none) (sh) (stM M c a)
theorem cl45 {S : Nat → mv_Sp} (hS : S 45 = sp45) {sh : mv_Shp} {M : mv_Mem} {c : Nat} {a : Nat} (p1 : oC sh c) (p2 : oL sh a) (p3 : a + 6 < c) {K : mv_Kt} {pc : Nat} {L : mv_Loc} {st : List Value} {cc_ ss_ : Nat} : mv_kal S 45 [.ref c, .ref a] sh M K pc L st cc_ ss_ = K pc L ((none : Option Value).toList ++ st) (sh) (stM M c a) cc_ ss_ := by
  refine q_kal (fun F => q_cali (fun Q => ?_))
  rw [hS]
  constructor
  · rintro ⟨c', a', hE, ⟨zp1, zp2, zp3⟩, hQ⟩
    simp only [List.cons.injEq, Value.ref.injEq, Value.int.injEq, Value.long.injEq, and_true, true_and] at hE
    obtain ⟨rfl, rfl⟩ := hE
    exact hQ
  · intro hQ
    exact ⟨c, a, rfl, ⟨p1, p2, p3⟩, hQ⟩
theorem ct45 {S : Nat → mv_Sp} (h42 : S 42 = sp42) (h43 : S 43 = sp43) (h44 : S 44 = sp44) : ∀ As sh M P, sp45 As sh M P → (mv_al0 As).length ≤ 3 ∧ mr45 S P 0 (mv_ent As 3) [] sh M 0 0 := by
  rintro As sh M P ⟨c, a, rfl, ⟨p1, p2, p3⟩, hQ⟩
  refine ⟨Nat.le_of_ble_eq_true rfl, ?_⟩
  show mr45 S P 0 [some (.ref c), some (.ref a), none] [] sh M 0 0
  unfold stM at hQ
  have z1 := p1.z1
  have e1 : lnS sh (c + 1) = 30 := lnS_of z1
  have z2 : sh[c + 1]? = some (.inl (0, lnS sh (c + 1))) := by rw [e1]; exact z1
  have z3 : lnS sh (c + 1) < 100000 := by rw [e1]; decide
  simp (disch := first | assumption | omega) only [e45_0, e45_1, e45_4, e45_5, e45_8, e45_9, e45_10, e45_11, e45_13, e45_16, e45_17, e45_18, e45_19, e45_20, e45_21, e45_24, e45_27, e45_30, e45_33, e45_34, e45_35, e45_38, q_gv0, q_gvs, q_isI1, q_isA1, q_hs0, q_hsn, q_hsi, q_hsr, q_hss, q_inc1, List.set_cons_zero, List.set_cons_succ, ↓reduceIte, q_ss0, q_ssi, q_ssr, q_nr0, q_nr10, q_nr11, q_tlS, q_tlN, q_cl, q_let, q_lef, q_ltt, q_ltf, q_eqt, q_eqf, q_add, q_mul, Nat.reduceAdd, Nat.reduceLeDiff, Nat.reduceEqDiff, eq_self, Nat.zero_le, Nat.le_refl, not_false_eq_true, not_true_eq_false, true_and, and_true, and_self, if_true, if_false, p1.g0, p1.o, p2.o, p1.p2, cl42 h42, cl43 h43, cl44 h44, e1, q_upO, fiM_out]
  exact hQ
theorem iL_rt : ∀ n (M : mv_Mem), iL M → iL (rtF n M).2
  | 0, M, h => h
  | n + 1, M, h => by
    unfold rtF
    split
    · split
      · exact iL_39 h
      · exact iL_rt n _ (iL_39 h)
    · exact h
/-- what laying answers, and leaves -/
def tdM (M : mv_Mem) : Int32 × mv_Mem := rtF 200 (rt0 M)
def lyN (M : mv_Mem) : Nat := if (tdM M).1 = Int32.ofInt (-4) ∧ ¬ (tdM M).2 11 0 = nI 0 ∧ ¬ (tdM M).2 11 1 = nI 0 then 1 else 0
def m46 (M : mv_Mem) : mv_Mem := if lyN M = 1 then mv_up (mv_up (mv_up (stM (lcM (tdM M).2 3 11) 18 3) 0 11 (nI 0)) 0 7 (nI 0)) 0 9 (nI 0) else (tdM M).2
theorem lcM_0 {M : mv_Mem} {a o : Nat} : lcM M a o a 0 = M o 0 := by
  unfold lcM
  rw [q_wrO (by omega), q_wrO (by omega), q_wrO (by omega), q_wrO (by omega), q_wrO (by omega), q_wrO (by omega), q_upN (by omega), q_upN (by omega), q_upN (by omega), q_upS]
theorem stM_out {M : mv_Mem} {c a b : Nat} (h : ¬ b = c) (h1 : ¬ b = c + 1) : stM M c a b = M b := by
  unfold stM
  rw [q_upO h, q_upO h1, q_upO h1, q_upO h1, q_upO h1, q_upO h1, q_upO h1, fiM_out h1]
def sp46 : mv_Sp := fun As sh M Q => As = [.ref 0] ∧ ((oX sh) ∧ (tX M) ∧ (gL M 11)) ∧ Q (some (.int (if lyN M = 1 then (tdM M).2 11 0 else Int32.ofInt (-2)))) (sh) (m46 M)
theorem cl46 {S : Nat → mv_Sp} (hS : S 46 = sp46) {sh : mv_Shp} {M : mv_Mem}  (p1 : oX sh) (p2 : tX M) (p3 : gL M 11) {K : mv_Kt} {pc : Nat} {L : mv_Loc} {st : List Value} {cc_ ss_ : Nat} : mv_kal S 46 [.ref 0] sh M K pc L st cc_ ss_ = K pc L ((some (.int (if lyN M = 1 then (tdM M).2 11 0 else Int32.ofInt (-2))) : Option Value).toList ++ st) (sh) (m46 M) cc_ ss_ := by
  refine q_kal (fun F => q_cali (fun Q => ?_))
  rw [hS]
  constructor
  · rintro ⟨hE, ⟨zp1, zp2, zp3⟩, hQ⟩
    exact hQ
  · intro hQ
    exact ⟨rfl, ⟨p1, p2, p3⟩, hQ⟩
theorem ct46 {S : Nat → mv_Sp} (h40 : S 40 = sp40) (h41 : S 41 = sp41) (h45 : S 45 = sp45) : ∀ As sh M P, sp46 As sh M P → (mv_al0 As).length ≤ 1 ∧ mr46 S P 0 (mv_ent As 1) [] sh M 0 0 := by
  rintro As sh M P ⟨rfl, ⟨p1, p2, p3⟩, hQ⟩
  refine ⟨Nat.le_of_ble_eq_true rfl, ?_⟩
  show mr46 S P 0 [some (.ref 0)] [] sh M 0 0
  have ht := p1.told
  have hl := p1.loom
  have hc := p1.cloth
  have e0 : rtF 200 (rt0 M) = tdM M := rfl
  unfold m46 at hQ
  by_cases c1 : (tdM M).1 = Int32.ofInt (-4)
  · by_cases c2 : (tdM M).2 11 0 = nI 0
    · have e2 : lyN M = 0 := if_neg (fun z => z.2.1 c2)
      rw [e2, if_neg (by decide), if_neg (by decide)] at hQ
      simp (disch := first | assumption | omega) only [e46_0, e46_1, e46_4, e46_7, e46_9, e46_12, e46_13, e46_16, e46_19, e46_22, e46_25, e46_26, e46_29, e46_32, e46_35, e46_38, e46_40, e46_41, e46_42, e46_45, e46_46, e46_49, e46_52, e46_55, e46_56, e46_59, e46_60, e46_63, e46_66, e46_67, e46_68, e46_71, e46_72, e46_73, e46_76, e46_77, e46_78, e46_81, e46_82, e46_85, e46_88, q_gv0, q_gvs, q_isI1, q_isA1, q_hs0, q_hsn, q_hsi, q_hsr, q_hss, q_inc1, List.set_cons_zero, List.set_cons_succ, ↓reduceIte, q_ss0, q_ssi, q_ssr, q_nr0, q_nr10, q_nr11, q_tlS, q_tlN, q_cl, q_let, q_lef, q_ltt, q_ltf, q_eqt, q_eqf, q_add, q_mul, Nat.reduceAdd, Nat.reduceLeDiff, Nat.reduceEqDiff, eq_self, Nat.zero_le, Nat.le_refl, not_false_eq_true, not_true_eq_false, true_and, and_true, and_self, if_true, if_false, p1.g0, p1.g1, p1.g2, p1.g3, p1.r1, p1.o10, cl40 h40, e0, c1, c2, ht.g0, ht.g1]
      exact hQ
    · by_cases c3 : (tdM M).2 11 1 = nI 0
      · have e2 : lyN M = 0 := if_neg (fun z => z.2.2 c3)
        rw [e2, if_neg (by decide), if_neg (by decide)] at hQ
        simp (disch := first | assumption | omega) only [e46_0, e46_1, e46_4, e46_7, e46_9, e46_12, e46_13, e46_16, e46_19, e46_22, e46_25, e46_26, e46_29, e46_32, e46_35, e46_38, e46_40, e46_41, e46_42, e46_45, e46_46, e46_49, e46_52, e46_55, e46_56, e46_59, e46_60, e46_63, e46_66, e46_67, e46_68, e46_71, e46_72, e46_73, e46_76, e46_77, e46_78, e46_81, e46_82, e46_85, e46_88, q_gv0, q_gvs, q_isI1, q_isA1, q_hs0, q_hsn, q_hsi, q_hsr, q_hss, q_inc1, List.set_cons_zero, List.set_cons_succ, ↓reduceIte, q_ss0, q_ssi, q_ssr, q_nr0, q_nr10, q_nr11, q_tlS, q_tlN, q_cl, q_let, q_lef, q_ltt, q_ltf, q_eqt, q_eqf, q_add, q_mul, Nat.reduceAdd, Nat.reduceLeDiff, Nat.reduceEqDiff, eq_self, Nat.zero_le, Nat.le_refl, not_false_eq_true, not_true_eq_false, true_and, and_true, and_self, if_true, if_false, p1.g0, p1.g1, p1.g2, p1.g3, p1.r1, p1.o10, cl40 h40, e0, c1, c2, c3, ht.g0, ht.g1]
        exact hQ
      · have e2 : lyN M = 1 := if_pos ⟨c1, c2, c3⟩
        rw [if_pos e2, if_pos e2] at hQ
        simp (disch := first | assumption | omega) only [e46_0, e46_1, e46_4, e46_7, e46_9, e46_12, e46_13, e46_16, e46_19, e46_22, e46_25, e46_26, e46_29, e46_32, e46_35, e46_38, e46_40, e46_41, e46_42, e46_45, e46_46, e46_49, e46_52, e46_55, e46_56, e46_59, e46_60, e46_63, e46_66, e46_67, e46_68, e46_71, e46_72, e46_73, e46_76, e46_77, e46_78, e46_81, e46_82, e46_85, e46_88, q_gv0, q_gvs, q_isI1, q_isA1, q_hs0, q_hsn, q_hsi, q_hsr, q_hss, q_inc1, List.set_cons_zero, List.set_cons_succ, ↓reduceIte, q_ss0, q_ssi, q_ssr, q_nr0, q_nr10, q_nr11, q_tlS, q_tlN, q_cl, q_let, q_lef, q_ltt, q_ltf, q_eqt, q_eqf, q_add, q_mul, Nat.reduceAdd, Nat.reduceLeDiff, Nat.reduceEqDiff, eq_self, Nat.zero_le, Nat.le_refl, not_false_eq_true, not_true_eq_false, true_and, and_true, and_self, if_true, if_false, p1.g0, p1.g1, p1.g2, p1.g3, p1.r1, p1.o10, p1.p7, p1.p9, p1.p11, cl40 h40, e0, c1, c2, c3, ht.g0, ht.g1, hl.o, hc.o, hl.g0, cl41 h41, cl45 h45, q_upO, stM_out, lcM_0]
        exact hQ
  · have e2 : lyN M = 0 := if_neg (fun z => c1 z.1)
    rw [e2, if_neg (by decide), if_neg (by decide)] at hQ
    simp (disch := first | assumption | omega) only [e46_0, e46_1, e46_4, e46_7, e46_9, e46_12, e46_13, e46_16, e46_19, e46_22, e46_25, e46_26, e46_29, e46_32, e46_35, e46_38, e46_40, e46_41, e46_42, e46_45, e46_46, e46_49, e46_52, e46_55, e46_56, e46_59, e46_60, e46_63, e46_66, e46_67, e46_68, e46_71, e46_72, e46_73, e46_76, e46_77, e46_78, e46_81, e46_82, e46_85, e46_88, q_gv0, q_gvs, q_isI1, q_isA1, q_hs0, q_hsn, q_hsi, q_hsr, q_hss, q_inc1, List.set_cons_zero, List.set_cons_succ, ↓reduceIte, q_ss0, q_ssi, q_ssr, q_nr0, q_nr10, q_nr11, q_tlS, q_tlN, q_cl, q_let, q_lef, q_ltt, q_ltf, q_eqt, q_eqf, q_add, q_mul, Nat.reduceAdd, Nat.reduceLeDiff, Nat.reduceEqDiff, eq_self, Nat.zero_le, Nat.le_refl, not_false_eq_true, not_true_eq_false, true_and, and_true, and_self, if_true, if_false, p1.g0, p1.g1, p1.g2, p1.g3, p1.r1, p1.o10, cl40 h40, e0, c1]
    exact hQ
