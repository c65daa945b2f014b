/-! numbers of tops; marks -/
theorem nI_andN (a b : Nat) : nI a &&& nI b = nI (a &&& b) := by
  apply Int32.toBitVec_inj.mp
  rw [Int32.toBitVec_and]
  exact (BitVec.ofNat_and (x := a) (y := b)).symm
theorem nI_xorN (a b : Nat) : nI a ^^^ nI b = nI (a ^^^ b) := by
  apply Int32.toBitVec_inj.mp
  rw [Int32.toBitVec_xor]
  exact (BitVec.ofNat_xor (x := a) (y := b)).symm
def adN (a b : Nat) : Nat := ((a &&& 1365) + (b &&& 1365)) ^^^ ((a ^^^ b) &&& 2730)
theorem adT_N (a b : Nat) : adT (nI a) (nI b) = nI (adN a b) := by
  unfold adT adN
  simp only [nI_andN, nI_xorN, q_add]
theorem adN_lt (a b : Nat) : adN a b < 4096 := by
  unfold adN
  have h1 : a &&& 1365 ≤ 1365 := Nat.and_le_right
  have h2 : b &&& 1365 ≤ 1365 := Nat.and_le_right
  have h3 : (a ^^^ b) &&& 2730 ≤ 2730 := Nat.and_le_right
  exact Nat.xor_lt_two_pow (n := 12) (by omega) (by omega)
def slM (M : mv_Mem) (a x : Nat) (v : Int32) : mv_Mem := enM (mv_up (fiM M (a + 2) (nI 0) 4096) a 3 (nI 0)) a x v
def sp83 : mv_Sp := fun As sh M Q => ∃ (a : Nat) (x : Nat) (v : Int32), As = [.ref a, .int (nI x), .int v] ∧ ((oS sh a) ∧ (x < 4096)) ∧ Q (none) (sh) (slM M a x v)
theorem cl83 {S : Nat → mv_Sp} (hS : S 83 = sp83) {sh : mv_Shp} {M : mv_Mem} {a : Nat} {x : Nat} {v : Int32} (p1 : oS sh a) (p2 : x < 4096) {K : mv_Kt} {pc : Nat} {L : mv_Loc} {st : List Value} {cc_ ss_ : Nat} : mv_kal S 83 [.ref a, .int (nI x), .int v] sh M K pc L st cc_ ss_ = K pc L ((none : Option Value).toList ++ st) (sh) (slM M a x v) cc_ ss_ := by
  refine q_kal (fun F => q_cali (fun Q => ?_))
  rw [hS]
  constructor
  · rintro ⟨a', x', v', hE, ⟨zp1, zp2⟩, hQ⟩
    simp only [List.cons.injEq, Value.ref.injEq, Value.int.injEq, Value.long.injEq, and_true, true_and] at hE
    obtain ⟨rfl, e_x, rfl⟩ := hE
    have z_x := nI_inj e_x (by omega) (by omega)
    subst z_x
    exact hQ
  · intro hQ
    exact ⟨a, x, v, rfl, ⟨p1, p2⟩, hQ⟩
theorem ct83 {S : Nat → mv_Sp} (h42 : S 42 = sp42) (h82 : S 82 = sp82) : ∀ As sh M P, sp83 As sh M P → (mv_al0 As).length ≤ 3 ∧ mr83 S P 0 (mv_ent As 3) [] sh M 0 0 := by
  rintro As sh M P ⟨a, x, v, rfl, ⟨p1, p2⟩, hQ⟩
  refine ⟨Nat.le_of_ble_eq_true rfl, ?_⟩
  show mr83 S P 0 [some (.ref a), some (.int (nI x)), some (.int v)] [] sh M 0 0
  have z1 := p1.z2
  have e1 : lnS sh (a + 2) = 4096 := lnS_of z1
  have z2 : sh[a + 2]? = some (.inl (0, lnS sh (a + 2))) := by rw [e1]; exact z1
  have z3 : lnS sh (a + 2) < 100000 := by rw [e1]; decide
  have z4 : ∃ l, l < 4097 ∧ mv_up (fiM M (a + 2) (nI 0) 4096) a 3 (nI 0) a 3 = nI l := ⟨0, by decide, q_upS⟩
  simp (disch := first | assumption | omega) only [e83_0, e83_1, e83_4, e83_5, e83_8, e83_9, e83_10, e83_13, e83_14, e83_15, e83_16, e83_19, q_gv0, q_gvs, q_isI1, q_isA1, q_hs0, q_hsn, q_hsi, q_hsr, q_hss, q_inc1, List.set_cons_zero, List.set_cons_succ, ↓reduceIte, q_ss0, q_ssi, q_ssr, q_nr0, q_nr10, q_nr11, q_tlS, q_tlN, q_cl, q_let, q_lef, q_ltt, q_ltf, q_eqt, q_eqf, q_add, q_mul, Nat.reduceAdd, Nat.reduceLeDiff, Nat.reduceEqDiff, eq_self, Nat.zero_le, Nat.le_refl, not_false_eq_true, not_true_eq_false, true_and, and_true, and_self, if_true, if_false, p1.g1, p1.o, p1.p3, cl42 h42, e1, cl82 h82]
  exact hQ
def cfF (M : mv_Mem) (a x : Nat) : Int32 := if M (a + 2) x ≤ nI 0 then nI x else (M (a + 2) x - nI 1) >>> (nI 4 &&& 31)
def sp100 : mv_Sp := fun As sh M Q => ∃ (a : Nat) (x : Nat), As = [.ref a, .int (nI x)] ∧ ((oS sh a) ∧ (x < 4096)) ∧ Q (some (.int (cfF M a x))) (sh) (M)
theorem cl100 {S : Nat → mv_Sp} (hS : S 100 = sp100) {sh : mv_Shp} {M : mv_Mem} {a : Nat} {x : Nat} (p1 : oS sh a) (p2 : x < 4096) {K : mv_Kt} {pc : Nat} {L : mv_Loc} {st : List Value} {cc_ ss_ : Nat} : mv_kal S 100 [.ref a, .int (nI x)] sh M K pc L st cc_ ss_ = K pc L ((some (.int (cfF M a x)) : Option Value).toList ++ st) (sh) (M) cc_ ss_ := by
  refine q_kal (fun F => q_cali (fun Q => ?_))
  rw [hS]
  constructor
  · rintro ⟨a', x', hE, ⟨zp1, zp2⟩, hQ⟩
    simp only [List.cons.injEq, Value.ref.injEq, Value.int.injEq, Value.long.injEq, and_true, true_and] at hE
    obtain ⟨rfl, e_x⟩ := hE
    have z_x := nI_inj e_x (by omega) (by omega)
    subst z_x
    exact hQ
  · intro hQ
    exact ⟨a, x, rfl, ⟨p1, p2⟩, hQ⟩
theorem ct100 {S : Nat → mv_Sp} (h85 : S 85 = sp85) : ∀ As sh M P, sp100 As sh M P → (mv_al0 As).length ≤ 3 ∧ mr100 S P 0 (mv_ent As 3) [] sh M 0 0 := by
  rintro As sh M P ⟨a, x, rfl, ⟨p1, p2⟩, hQ⟩
  refine ⟨Nat.le_of_ble_eq_true rfl, ?_⟩
  show mr100 S P 0 [some (.ref a), some (.int (nI x)), none] [] sh M 0 0
  unfold cfF at hQ
  by_cases c : M (a + 2) x ≤ nI 0
  · rw [if_pos c] at hQ
    simp (disch := first | assumption | omega) only [e100_0, e100_1, e100_2, e100_5, e100_6, e100_7, e100_10, e100_11, e100_12, e100_13, e100_14, e100_15, e100_18, e100_19, q_gv0, q_gvs, q_isI1, q_isA1, q_hs0, q_hsn, q_hsi, q_hsr, q_hss, q_inc1, List.set_cons_zero, List.set_cons_succ, ↓reduceIte, q_ss0, q_ssi, q_ssr, q_nr0, q_nr10, q_nr11, q_tlS, q_tlN, q_cl, q_let, q_lef, q_ltt, q_ltf, q_eqt, q_eqf, q_add, q_mul, Nat.reduceAdd, Nat.reduceLeDiff, Nat.reduceEqDiff, eq_self, Nat.zero_le, Nat.le_refl, not_false_eq_true, not_true_eq_false, true_and, and_true, and_self, if_true, if_false, p1.o, cl85 h85, c]
    exact hQ
  · rw [if_neg c] at hQ
    simp (disch := first | assumption | omega) only [e100_0, e100_1, e100_2, e100_5, e100_6, e100_7, e100_10, e100_11, e100_12, e100_13, e100_14, e100_15, e100_18, e100_19, q_gv0, q_gvs, q_isI1, q_isA1, q_hs0, q_hsn, q_hsi, q_hsr, q_hss, q_inc1, List.set_cons_zero, List.set_cons_succ, ↓reduceIte, q_ss0, q_ssi, q_ssr, q_nr0, q_nr10, q_nr11, q_tlS, q_tlN, q_cl, q_let, q_lef, q_ltt, q_ltf, q_eqt, q_eqf, q_add, q_mul, Nat.reduceAdd, Nat.reduceLeDiff, Nat.reduceEqDiff, eq_self, Nat.zero_le, Nat.le_refl, not_false_eq_true, not_true_eq_false, true_and, and_true, and_self, if_true, if_false, p1.o, cl85 h85, c]
    exact hQ
def smF (g : Nat → Int32) : Nat → Int32
  | 0 => nI 0
  | n + 1 => smF g n + g n
theorem lp113 {S : Nat → mv_Sp} {sh : mv_Shp} {M : mv_Mem} {P : mv_Post} {a : Nat} (p1 : oS sh a) (hQ : P (some (.int (smF (M (a + 2)) 4096))) sh M) :
    ∀ n k, k + n = 4096 → mr113 S P 4 [some (.ref a), some (.int (smF (M (a + 2)) k)), some (.int (nI k))] [] sh M 0 0
  | 0, k, h => by
    obtain rfl : k = 4096 := by omega
    rw [e113_4]
    simp (disch := first | assumption | omega) only [e113_0, e113_1, e113_2, e113_3, e113_5, e113_8, e113_11, e113_12, e113_13, e113_16, e113_17, e113_18, e113_19, e113_20, e113_23, e113_26, e113_27, q_gv0, q_gvs, q_isI1, q_isA1, q_hs0, q_hsn, q_hsi, q_hsr, q_hss, q_inc1, List.set_cons_zero, List.set_cons_succ, ↓reduceIte, q_ss0, q_ssi, q_ssr, q_nr0, q_nr10, q_nr11, q_tlS, q_tlN, q_cl, q_let, q_lef, q_ltt, q_ltf, q_eqt, q_eqf, q_add, q_mul, Nat.reduceAdd, Nat.reduceLeDiff, Nat.reduceEqDiff, eq_self, Nat.zero_le, Nat.le_refl, not_false_eq_true, not_true_eq_false, true_and, and_true, and_self, if_true, if_false]
    exact hQ
  | n + 1, k, h => by
    rw [e113_4]
    simp (disch := first | assumption | omega) only [e113_0, e113_1, e113_2, e113_3, e113_5, e113_8, e113_11, e113_12, e113_13, e113_16, e113_17, e113_18, e113_19, e113_20, e113_23, e113_26, e113_27, q_gv0, q_gvs, q_isI1, q_isA1, q_hs0, q_hsn, q_hsi, q_hsr, q_hss, q_inc1, List.set_cons_zero, List.set_cons_succ, ↓reduceIte, q_ss0, q_ssi, q_ssr, q_nr0, q_nr10, q_nr11, q_tlS, q_tlN, q_cl, q_let, q_lef, q_ltt, q_ltf, q_eqt, q_eqf, q_add, q_mul, Nat.reduceAdd, Nat.reduceLeDiff, Nat.reduceEqDiff, eq_self, Nat.zero_le, Nat.le_refl, not_false_eq_true, not_true_eq_false, true_and, and_true, and_self, if_true, if_false, p1.g1, p1.l2]
    exact lp113 p1 hQ n (k + 1) (by omega)
def sp113 : mv_Sp := fun As sh M Q => ∃ (a : Nat), As = [.ref a] ∧ ((oS sh a)) ∧ Q (some (.int (smF (M (a + 2)) 4096))) (sh) (M)
theorem cl113 {S : Nat → mv_Sp} (hS : S 113 = sp113) {sh : mv_Shp} {M : mv_Mem} {a : Nat} (p1 : oS sh a) {K : mv_Kt} {pc : Nat} {L : mv_Loc} {st : List Value} {cc_ ss_ : Nat} : mv_kal S 113 [.ref a] sh M K pc L st cc_ ss_ = K pc L ((some (.int (smF (M (a + 2)) 4096)) : Option Value).toList ++ st) (sh) (M) cc_ ss_ := by
  refine q_kal (fun F => q_cali (fun Q => ?_))
  rw [hS]
  constructor
  · rintro ⟨a', hE, zp1, hQ⟩
    simp only [List.cons.injEq, Value.ref.injEq, Value.int.injEq, Value.long.injEq, and_true, true_and] at hE
    subst hE
    exact hQ
  · intro hQ
    exact ⟨a, rfl, p1, hQ⟩
theorem ct113 {S : Nat → mv_Sp}  : ∀ As sh M P, sp113 As sh M P → (mv_al0 As).length ≤ 3 ∧ mr113 S P 0 (mv_ent As 3) [] sh M 0 0 := by
  rintro As sh M P ⟨a, rfl, p1, hQ⟩
  refine ⟨Nat.le_of_ble_eq_true rfl, ?_⟩
  show mr113 S P 0 [some (.ref a), none, none] [] sh M 0 0
  simp (disch := first | assumption | omega) only [e113_0, e113_1, e113_2, e113_3, q_gv0, q_gvs, q_isI1, q_isA1, q_hs0, q_hsn, q_hsi, q_hsr, q_hss, q_inc1, List.set_cons_zero, List.set_cons_succ, ↓reduceIte, q_ss0, q_ssi, q_ssr, q_nr0, q_nr10, q_nr11, q_tlS, q_tlN, q_cl, q_let, q_lef, q_ltt, q_ltf, q_eqt, q_eqf, q_add, q_mul, Nat.reduceAdd, Nat.reduceLeDiff, Nat.reduceEqDiff, eq_self, Nat.zero_le, Nat.le_refl, not_false_eq_true, not_true_eq_false, true_and, and_true, and_self, if_true, if_false]
  exact lp113 p1 hQ 4096 0 (by omega)
/-- every mark tells whence -/
def mkOk (M : mv_Mem) (a : Nat) : Prop := ∀ x, x < 4096 → ∃ k, k < 4096 ∧ cfF M a x = nI k
def wnF (M : mv_Mem) (a : Nat) : Nat → Nat → Nat
  | 0, _ => 0
  | n + 1, x => if M (a + 2) x ≤ nI 0 then 0 else wnF M a n (cfF M a x).toNatClampNeg + 1
theorem lp101 {S : Nat → mv_Sp} (h85 : S 85 = sp85) (h100 : S 100 = sp100) {sh : mv_Shp} {M : mv_Mem} {P : mv_Post} {a : Nat} {y : Int32} (p1 : oS sh a) (p2 : mkOk M a) :
    ∀ n k x, k + n = 4096 → x < 4096 → P (some (.int (nI (k + wnF M a n x)))) sh M → mr101 S P 4 [some (.ref a), some (.int y), some (.int (nI x)), some (.int (nI k))] [] sh M 0 0
  | 0, k, x, h, hx, hQ => by
    obtain rfl : k = 4096 := by omega
    rw [e101_4]
    simp (disch := first | assumption | omega) only [e101_0, e101_1, e101_2, e101_3, e101_5, e101_8, e101_11, e101_12, e101_13, e101_16, e101_19, e101_20, e101_21, e101_24, e101_25, e101_28, e101_31, e101_32, q_gv0, q_gvs, q_isI1, q_isA1, q_hs0, q_hsn, q_hsi, q_hsr, q_hss, q_inc1, List.set_cons_zero, List.set_cons_succ, ↓reduceIte, q_ss0, q_ssi, q_ssr, q_nr0, q_nr10, q_nr11, q_tlS, q_tlN, q_cl, q_let, q_lef, q_ltt, q_ltf, q_eqt, q_eqf, q_add, q_mul, Nat.reduceAdd, Nat.reduceLeDiff, Nat.reduceEqDiff, eq_self, Nat.zero_le, Nat.le_refl, not_false_eq_true, not_true_eq_false, true_and, and_true, and_self, if_true, if_false]
    exact hQ
  | n + 1, k, x, h, hx, hQ => by
    unfold wnF at hQ
    rw [e101_4]
    by_cases c : M (a + 2) x ≤ nI 0
    · rw [if_pos c] at hQ
      simp (disch := first | assumption | omega) only [e101_0, e101_1, e101_2, e101_3, e101_5, e101_8, e101_11, e101_12, e101_13, e101_16, e101_19, e101_20, e101_21, e101_24, e101_25, e101_28, e101_31, e101_32, q_gv0, q_gvs, q_isI1, q_isA1, q_hs0, q_hsn, q_hsi, q_hsr, q_hss, q_inc1, List.set_cons_zero, List.set_cons_succ, ↓reduceIte, q_ss0, q_ssi, q_ssr, q_nr0, q_nr10, q_nr11, q_tlS, q_tlN, q_cl, q_let, q_lef, q_ltt, q_ltf, q_eqt, q_eqf, q_add, q_mul, Nat.reduceAdd, Nat.reduceLeDiff, Nat.reduceEqDiff, eq_self, Nat.zero_le, Nat.le_refl, not_false_eq_true, not_true_eq_false, true_and, and_true, and_self, if_true, if_false, p1.o, cl85 h85, c]
      exact hQ
    · rw [if_neg c] at hQ
      obtain ⟨j, hj, hJ⟩ := p2 x hx
      rw [hJ, q_cl (by omega)] at hQ
      simp (disch := first | assumption | omega) only [e101_0, e101_1, e101_2, e101_3, e101_5, e101_8, e101_11, e101_12, e101_13, e101_16, e101_19, e101_20, e101_21, e101_24, e101_25, e101_28, e101_31, e101_32, q_gv0, q_gvs, q_isI1, q_isA1, q_hs0, q_hsn, q_hsi, q_hsr, q_hss, q_inc1, List.set_cons_zero, List.set_cons_succ, ↓reduceIte, q_ss0, q_ssi, q_ssr, q_nr0, q_nr10, q_nr11, q_tlS, q_tlN, q_cl, q_let, q_lef, q_ltt, q_ltf, q_eqt, q_eqf, q_add, q_mul, Nat.reduceAdd, Nat.reduceLeDiff, Nat.reduceEqDiff, eq_self, Nat.zero_le, Nat.le_refl, not_false_eq_true, not_true_eq_false, true_and, and_true, and_self, if_true, if_false, p1.o, cl85 h85, cl100 h100, c, hJ]
      refine lp101 h85 h100 p1 p2 n (k + 1) j (by omega) hj ?_
      rw [show k + 1 + wnF M a n j = k + (wnF M a n j + 1) by omega]
      exact hQ
def sp101 : mv_Sp := fun As sh M Q => ∃ (a : Nat) (x : Nat), As = [.ref a, .int (nI x)] ∧ ((oS sh a) ∧ (x < 4096) ∧ (mkOk M a)) ∧ Q (some (.int (nI (wnF M a 4096 x)))) (sh) (M)
theorem cl101 {S : Nat → mv_Sp} (hS : S 101 = sp101) {sh : mv_Shp} {M : mv_Mem} {a : Nat} {x : Nat} (p1 : oS sh a) (p2 : x < 4096) (p3 : mkOk M a) {K : mv_Kt} {pc : Nat} {L : mv_Loc} {st : List Value} {cc_ ss_ : Nat} : mv_kal S 101 [.ref a, .int (nI x)] sh M K pc L st cc_ ss_ = K pc L ((some (.int (nI (wnF M a 4096 x))) : Option Value).toList ++ st) (sh) (M) cc_ ss_ := by
  refine q_kal (fun F => q_cali (fun Q => ?_))
  rw [hS]
  constructor
  · rintro ⟨a', x', hE, ⟨zp1, zp2, zp3⟩, hQ⟩
    simp only [List.cons.injEq, Value.ref.injEq, Value.int.injEq, Value.long.injEq, and_true, true_and] at hE
    obtain ⟨rfl, e_x⟩ := hE
    have z_x := nI_inj e_x (by omega) (by omega)
    subst z_x
    exact hQ
  · intro hQ
    exact ⟨a, x, rfl, ⟨p1, p2, p3⟩, hQ⟩
theorem ct101 {S : Nat → mv_Sp} (h85 : S 85 = sp85) (h100 : S 100 = sp100) : ∀ As sh M P, sp101 As sh M P → (mv_al0 As).length ≤ 4 ∧ mr101 S P 0 (mv_ent As 4) [] sh M 0 0 := by
  rintro As sh M P ⟨a, x, rfl, ⟨p1, p2, p3⟩, hQ⟩
  refine ⟨Nat.le_of_ble_eq_true rfl, ?_⟩
  show mr101 S P 0 [some (.ref a), some (.int (nI x)), none, none] [] sh M 0 0
  simp (disch := first | assumption | omega) only [e101_0, e101_1, e101_2, e101_3, q_gv0, q_gvs, q_isI1, q_isA1, q_hs0, q_hsn, q_hsi, q_hsr, q_hss, q_inc1, List.set_cons_zero, List.set_cons_succ, ↓reduceIte, q_ss0, q_ssi, q_ssr, q_nr0, q_nr10, q_nr11, q_tlS, q_tlN, q_cl, q_let, q_lef, q_ltt, q_ltf, q_eqt, q_eqf, q_add, q_mul, Nat.reduceAdd, Nat.reduceLeDiff, Nat.reduceEqDiff, eq_self, Nat.zero_le, Nat.le_refl, not_false_eq_true, not_true_eq_false, true_and, and_true, and_self, if_true, if_false]
  refine lp101 h85 h100 p1 p3 4096 0 x (by omega) p2 ?_
  rw [Nat.zero_add]
  exact hQ
def bkF (M : mv_Mem) (a : Nat) : Nat → Nat → Nat
  | 0, x => x
  | n + 1, x => bkF M a n (cfF M a x).toNatClampNeg
def pcF (M : mv_Mem) (a x : Nat) : Nat := ((M (a + 2) x - nI 1) &&& nI 15).toNatClampNeg
theorem lp102 {S : Nat → mv_Sp} (h85 : S 85 = sp85) (h100 : S 100 = sp100) {sh : mv_Shp} {M : mv_Mem} {P : mv_Post} {a m : Nat} {y : Int32} (p1 : oS sh a) (p2 : mkOk M a) (hm : m < 4097) :
    ∀ n k x, k + n = m → x < 4096 → P (some (.int (nI (10 * (pcF M a (bkF M a n x) / 2) + pcF M a (bkF M a n x) % 2)))) sh M → mr102 S P 5 [some (.ref a), some (.int y), some (.int (nI m)), some (.int (nI x)), some (.int (nI k))] [] sh M 0 0
  | 0, k, x, h, hx, hQ => by
    obtain rfl : k = m := by omega
    obtain ⟨c, hc, hC⟩ : ∃ c, c < 16 ∧ (M (a + 2) x - nI 1) &&& nI 15 = nI c := pk_andE _ (m := nI 15) 4 (by decide)
    have e : pcF M a (bkF M a 0 x) = c := by show ((M (a + 2) x - nI 1) &&& nI 15).toNatClampNeg = c; rw [hC, q_cl (by omega)]
    rw [e] at hQ
    rw [e102_5]
    simp (disch := first | assumption | omega) only [e102_0, e102_1, e102_2, e102_3, e102_7, e102_8, e102_11, e102_13, e102_16, e102_19, e102_20, e102_21, e102_24, e102_25, e102_28, e102_31, e102_32, e102_33, e102_36, e102_37, e102_38, e102_40, e102_41, e102_43, e102_45, e102_47, e102_48, e102_49, e102_50, e102_52, e102_53, e102_54, e102_55, q_gv0, q_gvs, q_isI1, q_isA1, q_hs0, q_hsn, q_hsi, q_hsr, q_hss, q_inc1, List.set_cons_zero, List.set_cons_succ, ↓reduceIte, q_ss0, q_ssi, q_ssr, q_nr0, q_nr10, q_nr11, q_tlS, q_tlN, q_cl, q_let, q_lef, q_ltt, q_ltf, q_eqt, q_eqf, q_add, q_mul, Nat.reduceAdd, Nat.reduceLeDiff, Nat.reduceEqDiff, eq_self, Nat.zero_le, Nat.le_refl, not_false_eq_true, not_true_eq_false, true_and, and_true, and_self, if_true, if_false, p1.o, cl85 h85, hC, q_div, q_rem]
    exact hQ
  | n + 1, k, x, h, hx, hQ => by
    obtain ⟨j, hj, hJ⟩ := p2 x hx
    unfold bkF at hQ
    rw [hJ, q_cl (by omega)] at hQ
    rw [e102_5]
    simp (disch := first | assumption | omega) only [e102_0, e102_1, e102_2, e102_3, e102_7, e102_8, e102_11, e102_13, e102_16, e102_19, e102_20, e102_21, e102_24, e102_25, e102_28, e102_31, e102_32, e102_33, e102_36, e102_37, e102_38, e102_40, e102_41, e102_43, e102_45, e102_47, e102_48, e102_49, e102_50, e102_52, e102_53, e102_54, e102_55, q_gv0, q_gvs, q_isI1, q_isA1, q_hs0, q_hsn, q_hsi, q_hsr, q_hss, q_inc1, List.set_cons_zero, List.set_cons_succ, ↓reduceIte, q_ss0, q_ssi, q_ssr, q_nr0, q_nr10, q_nr11, q_tlS, q_tlN, q_cl, q_let, q_lef, q_ltt, q_ltf, q_eqt, q_eqf, q_add, q_mul, Nat.reduceAdd, Nat.reduceLeDiff, Nat.reduceEqDiff, eq_self, Nat.zero_le, Nat.le_refl, not_false_eq_true, not_true_eq_false, true_and, and_true, and_self, if_true, if_false, p1.o, cl100 h100, hJ]
    exact lp102 h85 h100 p1 p2 hm n (k + 1) j (by omega) hj hQ
def sp102 : mv_Sp := fun As sh M Q => ∃ (a : Nat) (x : Nat) (n : Nat), As = [.ref a, .int (nI x), .int (nI n)] ∧ ((oS sh a) ∧ (x < 4096) ∧ (n < 4097) ∧ (mkOk M a)) ∧ Q (some (.int (nI (10 * (pcF M a (bkF M a n x) / 2) + pcF M a (bkF M a n x) % 2)))) (sh) (M)
theorem cl102 {S : Nat → mv_Sp} (hS : S 102 = sp102) {sh : mv_Shp} {M : mv_Mem} {a : Nat} {x : Nat} {n : Nat} (p1 : oS sh a) (p2 : x < 4096) (p3 : n < 4097) (p4 : mkOk M a) {K : mv_Kt} {pc : Nat} {L : mv_Loc} {st : List Value} {cc_ ss_ : Nat} : mv_kal S 102 [.ref a, .int (nI x), .int (nI n)] sh M K pc L st cc_ ss_ = K pc L ((some (.int (nI (10 * (pcF M a (bkF M a n x) / 2) + pcF M a (bkF M a n x) % 2))) : Option Value).toList ++ st) (sh) (M) cc_ ss_ := by
  refine q_kal (fun F => q_cali (fun Q => ?_))
  rw [hS]
  constructor
  · rintro ⟨a', x', n', hE, ⟨zp1, zp2, zp3, zp4⟩, hQ⟩
    simp only [List.cons.injEq, Value.ref.injEq, Value.int.injEq, Value.long.injEq, and_true, true_and] at hE
    obtain ⟨rfl, e_x, e_n⟩ := hE
    have z_x := nI_inj e_x (by omega) (by omega)
    subst z_x
    have z_n := nI_inj e_n (by omega) (by omega)
    subst z_n
    exact hQ
  · intro hQ
    exact ⟨a, x, n, rfl, ⟨p1, p2, p3, p4⟩, hQ⟩
theorem ct102 {S : Nat → mv_Sp} (h85 : S 85 = sp85) (h100 : S 100 = sp100) : ∀ As sh M P, sp102 As sh M P → (mv_al0 As).length ≤ 5 ∧ mr102 S P 0 (mv_ent As 5) [] sh M 0 0 := by
  rintro As sh M P ⟨a, x, n, rfl, ⟨p1, p2, p3, p4⟩, hQ⟩
  refine ⟨Nat.le_of_ble_eq_true rfl, ?_⟩
  show mr102 S P 0 [some (.ref a), some (.int (nI x)), some (.int (nI n)), none, none] [] sh M 0 0
  simp (disch := first | assumption | omega) only [e102_0, e102_1, e102_2, e102_3, q_gv0, q_gvs, q_isI1, q_isA1, q_hs0, q_hsn, q_hsi, q_hsr, q_hss, q_inc1, List.set_cons_zero, List.set_cons_succ, ↓reduceIte, q_ss0, q_ssi, q_ssr, q_nr0, q_nr10, q_nr11, q_tlS, q_tlN, q_cl, q_let, q_lef, q_ltt, q_ltf, q_eqt, q_eqf, q_add, q_mul, Nat.reduceAdd, Nat.reduceLeDiff, Nat.reduceEqDiff, eq_self, Nat.zero_le, Nat.le_refl, not_false_eq_true, not_true_eq_false, true_and, and_true, and_self, if_true, if_false]
  exact lp102 h85 h100 p1 p4 p3 n 0 x (by omega) p2 hQ
