/-! the model: longs compared, kinds, turning -/
theorem q_lc {k : Nat} (h : k < 2147483648) : lN k = (nI k).toInt64 := (nI_l h).symm
theorem lg_lt {x y : Int32} : lg_cmp x.toInt64 y.toInt64 < nI 0 ↔ x < y := by
  rw [show nI 0 = 0 from rfl, lg_cmp_lt, Int64.lt_iff_toInt_lt, Int32.toInt_toInt64, Int32.toInt_toInt64, Int32.lt_iff_toInt_lt]
theorem lg_gt {x y : Int32} : nI 0 < lg_cmp x.toInt64 y.toInt64 ↔ y < x := by
  rw [show nI 0 = 0 from rfl, lg_cmp_gt, Int64.lt_iff_toInt_lt, Int32.toInt_toInt64, Int32.toInt_toInt64, Int32.lt_iff_toInt_lt]
def sp144 : mv_Sp := fun As sh M Q => ∃ (x : Int64) (y : Int64) (z : Int64), As = [.long x, .long y, .long z] ∧ ((True)) ∧ Q (some (.int (if lg_cmp x y < nI 0 then nI 0 else if nI 0 < lg_cmp x z then nI 0 else nI 1))) (sh) (M)
theorem cl144 {S : Nat → mv_Sp} (hS : S 144 = sp144) {sh : mv_Shp} {M : mv_Mem} {x : Int64} {y : Int64} {z : Int64} (p1 : True) {K : mv_Kt} {pc : Nat} {L : mv_Loc} {st : List Value} {cc_ ss_ : Nat} : mv_kal S 144 [.long x, .long y, .long z] sh M K pc L st cc_ ss_ = K pc L ((some (.int (if lg_cmp x y < nI 0 then nI 0 else if nI 0 < lg_cmp x z then nI 0 else nI 1)) : Option Value).toList ++ st) (sh) (M) cc_ ss_ := by
  refine q_kal (fun F => q_cali (fun Q => ?_))
  rw [hS]
  constructor
  · rintro ⟨x', y', z', hE, zp1, hQ⟩
    simp only [List.cons.injEq, Value.ref.injEq, Value.int.injEq, Value.long.injEq, and_true, true_and] at hE
    obtain ⟨rfl, rfl, rfl⟩ := hE
    exact hQ
  · intro hQ
    exact ⟨x, y, z, rfl, p1, hQ⟩
theorem ct144 {S : Nat → mv_Sp}  : ∀ As sh M P, sp144 As sh M P → (mv_al0 As).length ≤ 6 ∧ mr144 S P 0 (mv_ent As 6) [] sh M 0 0 := by
  rintro As sh M P ⟨x, y, z, rfl, p1, hQ⟩
  refine ⟨Nat.le_of_ble_eq_true rfl, ?_⟩
  show mr144 S P 0 [some (.long x), none, some (.long y), none, some (.long z), none] [] sh M 0 0
  by_cases c1 : lg_cmp x y < nI 0
  · rw [if_pos c1] at hQ
    simp (disch := first | assumption | omega) only [e144_0, e144_1, e144_2, e144_3, e144_6, e144_7, e144_9, e144_10, e144_13, e144_14, e144_17, e144_18, q_gv0, q_gvs, q_isI1, q_isA1, q_hs0, q_hsn, q_hsi, q_hsr, q_hss, q_inc1, List.set_cons_zero, List.set_cons_succ, ↓reduceIte, q_ss0, q_ssi, q_ssr, q_nr0, q_nr10, q_nr11, q_tlS, q_tlN, q_cl, q_let, q_lef, q_ltt, q_ltf, q_eqt, q_eqf, q_add, q_mul, Nat.reduceAdd, Nat.reduceLeDiff, Nat.reduceEqDiff, eq_self, Nat.zero_le, Nat.le_refl, not_false_eq_true, not_true_eq_false, true_and, and_true, and_self, if_true, if_false, q_isL1, c1]
    exact hQ
  rw [if_neg c1] at hQ
  by_cases c2 : nI 0 < lg_cmp x z
  · rw [if_pos c2] at hQ
    simp (disch := first | assumption | omega) only [e144_0, e144_1, e144_2, e144_3, e144_6, e144_7, e144_9, e144_10, e144_13, e144_14, e144_17, e144_18, q_gv0, q_gvs, q_isI1, q_isA1, q_hs0, q_hsn, q_hsi, q_hsr, q_hss, q_inc1, List.set_cons_zero, List.set_cons_succ, ↓reduceIte, q_ss0, q_ssi, q_ssr, q_nr0, q_nr10, q_nr11, q_tlS, q_tlN, q_cl, q_let, q_lef, q_ltt, q_ltf, q_eqt, q_eqf, q_add, q_mul, Nat.reduceAdd, Nat.reduceLeDiff, Nat.reduceEqDiff, eq_self, Nat.zero_le, Nat.le_refl, not_false_eq_true, not_true_eq_false, true_and, and_true, and_self, if_true, if_false, q_isL1, c1, c2]
    exact hQ
  rw [if_neg c2] at hQ
  simp (disch := first | assumption | omega) only [e144_0, e144_1, e144_2, e144_3, e144_6, e144_7, e144_9, e144_10, e144_13, e144_14, e144_17, e144_18, q_gv0, q_gvs, q_isI1, q_isA1, q_hs0, q_hsn, q_hsi, q_hsr, q_hss, q_inc1, List.set_cons_zero, List.set_cons_succ, ↓reduceIte, q_ss0, q_ssi, q_ssr, q_nr0, q_nr10, q_nr11, q_tlS, q_tlN, q_cl, q_let, q_lef, q_ltt, q_ltf, q_eqt, q_eqf, q_add, q_mul, Nat.reduceAdd, Nat.reduceLeDiff, Nat.reduceEqDiff, eq_self, Nat.zero_le, Nat.le_refl, not_false_eq_true, not_true_eq_false, true_and, and_true, and_self, if_true, if_false, q_isL1, c1, c2]
  exact hQ
/-- does x lie from a to b -/
def inN (x a b : Int32) : Nat := if x < a then 0 else if b < x then 0 else 1
theorem inN_01 (x a b : Int32) : inN x a b = 0 ∨ inN x a b = 1 := by
  unfold inN
  split
  · exact Or.inl rfl
  · split <;> simp
theorem cr144 {S : Nat → mv_Sp} (h : S 144 = sp144) {sh : mv_Shp} {M : mv_Mem} {x a b : Int32} {K : mv_Kt} {pc : Nat} {L : mv_Loc} {st : List Value} {c s : Nat} :
    mv_kal S 144 [.long x.toInt64, .long a.toInt64, .long b.toInt64] sh M K pc L st c s = K pc L ((some (.int (nI (inN x a b)))).toList ++ st) sh M c s := by
  rw [cl144 h trivial]
  have : (if lg_cmp x.toInt64 a.toInt64 < nI 0 then nI 0 else if nI 0 < lg_cmp x.toInt64 b.toInt64 then nI 0 else nI 1) = nI (inN x a b) := by
    unfold inN
    simp only [lg_lt, lg_gt]
    split
    · rfl
    · split <;> rfl
  rw [this]
def sp148 : mv_Sp := fun As sh M Q => ∃ (x : Int32) (t : Nat), As = [.int x, .int (nI t)] ∧ ((t < 32)) ∧ Q (some (.int (if x >>> (nI t &&& 31) &&& nI 1 = nI 1 then nI 1 else nI 0))) (sh) (M)
theorem cl148 {S : Nat → mv_Sp} (hS : S 148 = sp148) {sh : mv_Shp} {M : mv_Mem} {x : Int32} {t : Nat} (p1 : t < 32) {K : mv_Kt} {pc : Nat} {L : mv_Loc} {st : List Value} {cc_ ss_ : Nat} : mv_kal S 148 [.int x, .int (nI t)] sh M K pc L st cc_ ss_ = K pc L ((some (.int (if x >>> (nI t &&& 31) &&& nI 1 = nI 1 then nI 1 else nI 0)) : Option Value).toList ++ st) (sh) (M) cc_ ss_ := by
  refine q_kal (fun F => q_cali (fun Q => ?_))
  rw [hS]
  constructor
  · rintro ⟨x', t', hE, zp1, hQ⟩
    simp only [List.cons.injEq, Value.ref.injEq, Value.int.injEq, Value.long.injEq, and_true, true_and] at hE
    obtain ⟨rfl, e_t⟩ := hE
    have z_t := nI_inj e_t (by omega) (by omega)
    subst z_t
    exact hQ
  · intro hQ
    exact ⟨x, t, rfl, p1, hQ⟩
theorem ct148 {S : Nat → mv_Sp}  : ∀ As sh M P, sp148 As sh M P → (mv_al0 As).length ≤ 2 ∧ mr148 S P 0 (mv_ent As 2) [] sh M 0 0 := by
  rintro As sh M P ⟨x, t, rfl, p1, hQ⟩
  refine ⟨Nat.le_of_ble_eq_true rfl, ?_⟩
  show mr148 S P 0 [some (.int x), some (.int (nI t))] [] sh M 0 0
  by_cases c : x >>> (nI t &&& 31) &&& nI 1 = nI 1
  · rw [if_pos c] at hQ
    simp (disch := first | assumption | omega) only [e148_0, e148_1, e148_2, e148_3, e148_4, e148_5, e148_6, e148_9, e148_10, e148_13, e148_14, q_gv0, q_gvs, q_isI1, q_isA1, q_hs0, q_hsn, q_hsi, q_hsr, q_hss, q_inc1, List.set_cons_zero, List.set_cons_succ, ↓reduceIte, q_ss0, q_ssi, q_ssr, q_nr0, q_nr10, q_nr11, q_tlS, q_tlN, q_cl, q_let, q_lef, q_ltt, q_ltf, q_eqt, q_eqf, q_add, q_mul, Nat.reduceAdd, Nat.reduceLeDiff, Nat.reduceEqDiff, eq_self, Nat.zero_le, Nat.le_refl, not_false_eq_true, not_true_eq_false, true_and, and_true, and_self, if_true, if_false, c]
    exact hQ
  · rw [if_neg c] at hQ
    simp (disch := first | assumption | omega) only [e148_0, e148_1, e148_2, e148_3, e148_4, e148_5, e148_6, e148_9, e148_10, e148_13, e148_14, q_gv0, q_gvs, q_isI1, q_isA1, q_hs0, q_hsn, q_hsi, q_hsr, q_hss, q_inc1, List.set_cons_zero, List.set_cons_succ, ↓reduceIte, q_ss0, q_ssi, q_ssr, q_nr0, q_nr10, q_nr11, q_tlS, q_tlN, q_cl, q_let, q_lef, q_ltt, q_ltf, q_eqt, q_eqf, q_add, q_mul, Nat.reduceAdd, Nat.reduceLeDiff, Nat.reduceEqDiff, eq_self, Nat.zero_le, Nat.le_refl, not_false_eq_true, not_true_eq_false, true_and, and_true, and_self, if_true, if_false, c]
    exact hQ
def sp158 : mv_Sp := fun As sh M Q => ∃ (t : Nat) (w : Nat), As = [.ref 0, .int (nI t), .int (nI w)] ∧ ((oM sh) ∧ (t < 6) ∧ (w < 2) ∧ (∃ k, k < 4 ∧ M 2 t = nI k)) ∧ Q (some (.int (qf (M 2 t).toNatClampNeg w))) (sh) (M)
theorem cl158 {S : Nat → mv_Sp} (hS : S 158 = sp158) {sh : mv_Shp} {M : mv_Mem} {t : Nat} {w : Nat} (p1 : oM sh) (p2 : t < 6) (p3 : w < 2) (p4 : ∃ k, k < 4 ∧ M 2 t = nI k) {K : mv_Kt} {pc : Nat} {L : mv_Loc} {st : List Value} {cc_ ss_ : Nat} : mv_kal S 158 [.ref 0, .int (nI t), .int (nI w)] sh M K pc L st cc_ ss_ = K pc L ((some (.int (qf (M 2 t).toNatClampNeg w)) : Option Value).toList ++ st) (sh) (M) cc_ ss_ := by
  refine q_kal (fun F => q_cali (fun Q => ?_))
  rw [hS]
  constructor
  · rintro ⟨t', w', hE, ⟨zp1, zp2, zp3, zp4⟩, hQ⟩
    simp only [List.cons.injEq, Value.ref.injEq, Value.int.injEq, Value.long.injEq, and_true, true_and] at hE
    obtain ⟨e_t, e_w⟩ := hE
    have z_t := nI_inj e_t (by omega) (by omega)
    subst z_t
    have z_w := nI_inj e_w (by omega) (by omega)
    subst z_w
    exact hQ
  · intro hQ
    exact ⟨t, w, rfl, ⟨p1, p2, p3, p4⟩, hQ⟩
theorem ct158 {S : Nat → mv_Sp}  : ∀ As sh M P, sp158 As sh M P → (mv_al0 As).length ≤ 3 ∧ mr158 S P 0 (mv_ent As 3) [] sh M 0 0 := by
  rintro As sh M P ⟨t, w, rfl, ⟨p1, p2, p3, p4⟩, hQ⟩
  refine ⟨Nat.le_of_ble_eq_true rfl, ?_⟩
  show mr158 S P 0 [some (.ref 0), some (.int (nI t)), some (.int (nI w))] [] sh M 0 0
  obtain ⟨k, hk, hkd⟩ := p4
  rw [hkd, q_cl (by omega)] at hQ
  rcases (show w = 0 ∨ w = 1 by omega) with rfl | rfl <;> rcases (show k = 0 ∨ k = 1 ∨ k = 2 ∨ k = 3 by omega) with rfl | rfl | rfl | rfl <;>
  · simp (disch := first | assumption | omega) only [e158_0, e158_1, e158_4, e158_5, e158_6, e158_32, e158_33, e158_36, e158_37, e158_40, e158_42, e158_43, e158_44, e158_47, e158_48, e158_51, e158_52, e158_53, e158_54, e158_57, e158_58, e158_61, e158_62, e158_63, e158_64, e158_67, e158_68, e158_71, e158_72, q_gv0, q_gvs, q_isI1, q_isA1, q_hs0, q_hsn, q_hsi, q_hsr, q_hss, q_inc1, List.set_cons_zero, List.set_cons_succ, ↓reduceIte, q_ss0, q_ssi, q_ssr, q_nr0, q_nr10, q_nr11, q_tlS, q_tlN, q_cl, q_let, q_lef, q_ltt, q_ltf, q_eqt, q_eqf, q_add, q_mul, Nat.reduceAdd, Nat.reduceLeDiff, Nat.reduceEqDiff, eq_self, Nat.zero_le, Nat.le_refl, not_false_eq_true, not_true_eq_false, true_and, and_true, and_self, if_true, if_false, p1.g4, p1.l2, hkd]
    exact hQ
/-- a twist: 40 either way at most -/
def tw40 (x : Int32) : Prop := ∃ k, k ≤ 80 ∧ x = nI k - nI 40
def qn : Nat → Nat → Nat
  | 1, 0 => 4
  | 1, _ => 0
  | 2, 0 => 1
  | 2, _ => 3
  | 3, 0 => 3
  | 3, _ => 2
  | _, 0 => 3
  | _, _ => 1
theorem qn_eq : ∀ (j : Fin 81) (k : Fin 4) (w : Fin 2), nI j.1 - nI 40 + qf k.1 w.1 = nI (j.1 + qn k.1 w.1) - nI 42 ∧ j.1 + qn k.1 w.1 < 85 := by decide +kernel
def abF (z : Int32) : Int32 := if nI 0 ≤ z then z else nI 0 - z
theorem jamL : ∀ (i : Fin 85) (n : Fin 41), (nI n.1 < abF (nI i.1 - nI 42)) = (nI i.1 - nI 42 < - nI n.1 ∨ nI n.1 < nI i.1 - nI 42) := by
  have h : ∀ (i : Fin 85) (n : Fin 41), (nI n.1 < abF (nI i.1 - nI 42)) ↔ (nI i.1 - nI 42 < - nI n.1 ∨ nI n.1 < nI i.1 - nI 42) := by decide +kernel
  exact fun i n => propext (h i n)
theorem jamK : ∀ (i : Fin 85) (n : Fin 41), ¬ nI n.1 < abF (nI i.1 - nI 42) → 2 ≤ i.1 ∧ i.1 ≤ 82 ∧ nI i.1 - nI 42 = nI (i.1 - 2) - nI 40 := by decide +kernel
theorem ocF_eq (kd w : Nat) (tw lim : Int32) : ocF kd w tw lim = if qf kd w = nI 0 then 1 else if lim < abF (tw + qf kd w) then 2 else 0 := rfl
theorem tw_turn {kd w : Nat} {tw lim : Int32} (hk : kd < 4) (hw : w < 2) (ht : tw40 tw) (hl : ∃ n, n ≤ 40 ∧ lim = nI n) (h : ocF kd w tw lim = 0) : tw40 (tw + qf kd w) := by
  obtain ⟨j, hj, rfl⟩ := ht
  obtain ⟨n, hn, rfl⟩ := hl
  have e := qn_eq ⟨j, by omega⟩ ⟨kd, hk⟩ ⟨w, hw⟩
  rw [ocF_eq] at h
  by_cases c : qf kd w = nI 0
  · rw [if_pos c] at h; exact absurd h (by decide)
  rw [if_neg c] at h
  have e1 : nI j - nI 40 + qf kd w = nI (j + qn kd w) - nI 42 := e.1
  rw [e1] at h ⊢
  by_cases c2 : nI n < abF (nI (j + qn kd w) - nI 42)
  · rw [if_pos c2] at h; exact absurd h (by decide)
  have := jamK ⟨j + qn kd w, e.2⟩ ⟨n, by omega⟩ c2
  exact ⟨j + qn kd w - 2, by have := this.2.1; dsimp only at this; omega, this.2.2⟩
def sp159 : mv_Sp := fun As sh M Q => ∃ (b : Nat) (t : Nat) (w : Nat), As = [.ref 0, .int (nI b), .int (nI t), .int (nI w)] ∧ ((oM sh) ∧ (t < 6) ∧ (w < 2) ∧ (b + 799 ≤ 9588) ∧ (∃ k, k < 4 ∧ M 2 t = nI k) ∧ (tw40 (M 1 (b + 12 + t))) ∧ (∃ n, n ≤ 40 ∧ M 0 9 = nI n)) ∧ Q (some (.int (nI (if ocF (M 2 t).toNatClampNeg w (M 1 (b + 12 + t)) (M 0 9) = 2 then 1 else 0)))) (sh) (M)
theorem cl159 {S : Nat → mv_Sp} (hS : S 159 = sp159) {sh : mv_Shp} {M : mv_Mem} {b : Nat} {t : Nat} {w : Nat} (p1 : oM sh) (p2 : t < 6) (p3 : w < 2) (p4 : b + 799 ≤ 9588) (p5 : ∃ k, k < 4 ∧ M 2 t = nI k) (p6 : tw40 (M 1 (b + 12 + t))) (p7 : ∃ n, n ≤ 40 ∧ M 0 9 = nI n) {K : mv_Kt} {pc : Nat} {L : mv_Loc} {st : List Value} {cc_ ss_ : Nat} : mv_kal S 159 [.ref 0, .int (nI b), .int (nI t), .int (nI w)] sh M K pc L st cc_ ss_ = K pc L ((some (.int (nI (if ocF (M 2 t).toNatClampNeg w (M 1 (b + 12 + t)) (M 0 9) = 2 then 1 else 0))) : Option Value).toList ++ st) (sh) (M) cc_ ss_ := by
  refine q_kal (fun F => q_cali (fun Q => ?_))
  rw [hS]
  constructor
  · rintro ⟨b', t', w', hE, ⟨zp1, zp2, zp3, zp4, zp5, zp6, zp7⟩, hQ⟩
    simp only [List.cons.injEq, Value.ref.injEq, Value.int.injEq, Value.long.injEq, and_true, true_and] at hE
    obtain ⟨e_b, e_t, e_w⟩ := hE
    have z_b := nI_inj e_b (by omega) (by omega)
    subst z_b
    have z_t := nI_inj e_t (by omega) (by omega)
    subst z_t
    have z_w := nI_inj e_w (by omega) (by omega)
    subst z_w
    exact hQ
  · intro hQ
    exact ⟨b, t, w, rfl, ⟨p1, p2, p3, p4, p5, p6, p7⟩, hQ⟩
theorem ct159 {S : Nat → mv_Sp} (h144 : S 144 = sp144) (h158 : S 158 = sp158) : ∀ As sh M P, sp159 As sh M P → (mv_al0 As).length ≤ 5 ∧ mr159 S P 0 (mv_ent As 5) [] sh M 0 0 := by
  rintro As sh M P ⟨b, t, w, rfl, ⟨p1, p2, p3, p4, p5, p6, p7⟩, hQ⟩
  refine ⟨Nat.le_of_ble_eq_true rfl, ?_⟩
  show mr159 S P 0 [some (.ref 0), some (.int (nI b)), some (.int (nI t)), some (.int (nI w)), none] [] sh M 0 0
  obtain ⟨k, hk, hkd⟩ := id p5
  obtain ⟨j, hj, hJ⟩ := id p6
  obtain ⟨n, hn, hN⟩ := id p7
  have e := qn_eq ⟨j, by omega⟩ ⟨k, hk⟩ ⟨w, p3⟩
  have e1 : nI j - nI 40 + qf k w = nI (j + qn k w) - nI 42 := e.1
  have jl := jamL ⟨j + qn k w, e.2⟩ ⟨n, by omega⟩
  rw [hkd, hJ, hN, q_cl (show k < 2147483648 by omega), ocF_eq, e1] at hQ
  have ek : qf (M 2 t).toNatClampNeg w = qf k w := by rw [hkd, q_cl (show k < 2147483648 by omega)]
  have jl : (nI n < abF (nI (j + qn k w) - nI 42)) = (nI (j + qn k w) - nI 42 < - nI n ∨ nI n < nI (j + qn k w) - nI 42) := jl
  by_cases c1 : qf k w = nI 0
  · rw [if_pos c1, if_neg (by decide)] at hQ
    simp (disch := first | assumption | omega) only [e159_0, e159_1, e159_4, e159_5, e159_7, e159_8, e159_9, e159_10, e159_11, e159_12, e159_13, e159_14, e159_17, e159_18, e159_20, e159_21, e159_22, e159_23, e159_26, e159_29, e159_31, e159_32, e159_33, e159_36, e159_37, e159_38, e159_39, e159_42, e159_43, e159_46, e159_49, e159_50, e159_53, e159_54, q_gv0, q_gvs, q_isI1, q_isA1, q_hs0, q_hsn, q_hsi, q_hsr, q_hss, q_inc1, List.set_cons_zero, List.set_cons_succ, ↓reduceIte, q_ss0, q_ssi, q_ssr, q_nr0, q_nr10, q_nr11, q_tlS, q_tlN, q_cl, q_let, q_lef, q_ltt, q_ltf, q_eqt, q_eqf, q_add, q_mul, Nat.reduceAdd, Nat.reduceLeDiff, Nat.reduceEqDiff, eq_self, Nat.zero_le, Nat.le_refl, not_false_eq_true, not_true_eq_false, true_and, and_true, and_self, if_true, if_false, p1.g7, p1.g0, p1.g9, p1.o, p1.l1, cl158 h158, ek, c1]
    exact hQ
  rw [if_neg c1] at hQ
  by_cases c2 : nI n < abF (nI (j + qn k w) - nI 42)
  · rw [if_pos c2, if_pos rfl] at hQ
    have i0 : inN (nI (j + qn k w) - nI 42) (- nI n) (nI n) = 0 := by
      rw [jl] at c2
      unfold inN
      rcases c2 with c2 | c2
      · rw [if_pos c2]
      · split
        · rfl
        · first | rfl | rw [if_pos c2]
    simp (disch := first | assumption | omega) only [e159_0, e159_1, e159_4, e159_5, e159_7, e159_8, e159_9, e159_10, e159_11, e159_12, e159_13, e159_14, e159_17, e159_18, e159_20, e159_21, e159_22, e159_23, e159_26, e159_29, e159_31, e159_32, e159_33, e159_36, e159_37, e159_38, e159_39, e159_42, e159_43, e159_46, e159_49, e159_50, e159_53, e159_54, q_gv0, q_gvs, q_isI1, q_isA1, q_hs0, q_hsn, q_hsi, q_hsr, q_hss, q_inc1, List.set_cons_zero, List.set_cons_succ, ↓reduceIte, q_ss0, q_ssi, q_ssr, q_nr0, q_nr10, q_nr11, q_tlS, q_tlN, q_cl, q_let, q_lef, q_ltt, q_ltf, q_eqt, q_eqf, q_add, q_mul, Nat.reduceAdd, Nat.reduceLeDiff, Nat.reduceEqDiff, eq_self, Nat.zero_le, Nat.le_refl, not_false_eq_true, not_true_eq_false, true_and, and_true, and_self, if_true, if_false, p1.g7, p1.g0, p1.g9, p1.o, p1.l1, cl158 h158, ek, c1, hJ, hN, e1, cr144 h144, i0]
    exact hQ
  · rw [if_neg c2, if_neg (by decide)] at hQ
    have i0 : inN (nI (j + qn k w) - nI 42) (- nI n) (nI n) = 1 := by
      rw [jl] at c2
      unfold inN
      rw [if_neg (fun z => c2 (Or.inl z)), if_neg (fun z => c2 (Or.inr z))]
    simp (disch := first | assumption | omega) only [e159_0, e159_1, e159_4, e159_5, e159_7, e159_8, e159_9, e159_10, e159_11, e159_12, e159_13, e159_14, e159_17, e159_18, e159_20, e159_21, e159_22, e159_23, e159_26, e159_29, e159_31, e159_32, e159_33, e159_36, e159_37, e159_38, e159_39, e159_42, e159_43, e159_46, e159_49, e159_50, e159_53, e159_54, q_gv0, q_gvs, q_isI1, q_isA1, q_hs0, q_hsn, q_hsi, q_hsr, q_hss, q_inc1, List.set_cons_zero, List.set_cons_succ, ↓reduceIte, q_ss0, q_ssi, q_ssr, q_nr0, q_nr10, q_nr11, q_tlS, q_tlN, q_cl, q_let, q_lef, q_ltt, q_ltf, q_eqt, q_eqf, q_add, q_mul, Nat.reduceAdd, Nat.reduceLeDiff, Nat.reduceEqDiff, eq_self, Nat.zero_le, Nat.le_refl, not_false_eq_true, not_true_eq_false, true_and, and_true, and_self, if_true, if_false, p1.g7, p1.g0, p1.g9, p1.o, p1.l1, cl158 h158, ek, c1, hJ, hN, e1, cr144 h144, i0]
    exact hQ
/-- what a turned tablet's figures become -/
def tyM (M : mv_Mem) (b t : Nat) (q : Int32) : mv_Mem := mv_up (mv_up (mv_up M 1 (b + 6 + t) ((M 1 (b + 6 + t) + q) &&& nI 3)) 1 (b + 12 + t) (M 1 (b + 12 + t) + q)) 1 (b + 24 + t) (if nI 0 < q then nI 0 else nI 1)
def sp160 : mv_Sp := fun As sh M Q => ∃ (b : Nat) (t : Nat) (w : Nat), As = [.ref 0, .int (nI b), .int (nI t), .int (nI w)] ∧ ((oM sh) ∧ (t < 6) ∧ (w < 2) ∧ (b + 799 ≤ 9588) ∧ (∃ k, k < 4 ∧ M 2 t = nI k) ∧ (tw40 (M 1 (b + 12 + t))) ∧ (∃ n, n ≤ 40 ∧ M 0 9 = nI n)) ∧ Q (some (.int (nI (if ocF (M 2 t).toNatClampNeg w (M 1 (b + 12 + t)) (M 0 9) = 0 then 1 else 0)))) (sh) (if ocF (M 2 t).toNatClampNeg w (M 1 (b + 12 + t)) (M 0 9) = 0 then tyM M b t (qf (M 2 t).toNatClampNeg w) else M)
theorem cl160 {S : Nat → mv_Sp} (hS : S 160 = sp160) {sh : mv_Shp} {M : mv_Mem} {b : Nat} {t : Nat} {w : Nat} (p1 : oM sh) (p2 : t < 6) (p3 : w < 2) (p4 : b + 799 ≤ 9588) (p5 : ∃ k, k < 4 ∧ M 2 t = nI k) (p6 : tw40 (M 1 (b + 12 + t))) (p7 : ∃ n, n ≤ 40 ∧ M 0 9 = nI n) {K : mv_Kt} {pc : Nat} {L : mv_Loc} {st : List Value} {cc_ ss_ : Nat} : mv_kal S 160 [.ref 0, .int (nI b), .int (nI t), .int (nI w)] sh M K pc L st cc_ ss_ = K pc L ((some (.int (nI (if ocF (M 2 t).toNatClampNeg w (M 1 (b + 12 + t)) (M 0 9) = 0 then 1 else 0))) : Option Value).toList ++ st) (sh) (if ocF (M 2 t).toNatClampNeg w (M 1 (b + 12 + t)) (M 0 9) = 0 then tyM M b t (qf (M 2 t).toNatClampNeg w) else M) cc_ ss_ := by
  refine q_kal (fun F => q_cali (fun Q => ?_))
  rw [hS]
  constructor
  · rintro ⟨b', t', w', hE, ⟨zp1, zp2, zp3, zp4, zp5, zp6, zp7⟩, hQ⟩
    simp only [List.cons.injEq, Value.ref.injEq, Value.int.injEq, Value.long.injEq, and_true, true_and] at hE
    obtain ⟨e_b, e_t, e_w⟩ := hE
    have z_b := nI_inj e_b (by omega) (by omega)
    subst z_b
    have z_t := nI_inj e_t (by omega) (by omega)
    subst z_t
    have z_w := nI_inj e_w (by omega) (by omega)
    subst z_w
    exact hQ
  · intro hQ
    exact ⟨b, t, w, rfl, ⟨p1, p2, p3, p4, p5, p6, p7⟩, hQ⟩
theorem ct160 {S : Nat → mv_Sp} (h158 : S 158 = sp158) (h159 : S 159 = sp159) : ∀ As sh M P, sp160 As sh M P → (mv_al0 As).length ≤ 6 ∧ mr160 S P 0 (mv_ent As 6) [] sh M 0 0 := by
  rintro As sh M P ⟨b, t, w, rfl, ⟨p1, p2, p3, p4, p5, p6, p7⟩, hQ⟩
  refine ⟨Nat.le_of_ble_eq_true rfl, ?_⟩
  show mr160 S P 0 [some (.ref 0), some (.int (nI b)), some (.int (nI t)), some (.int (nI w)), none, none] [] sh M 0 0
  have ho := ocF_lt (M 2 t).toNatClampNeg w (M 1 (b + 12 + t)) (M 0 9)
  have hq : qf (M 2 t).toNatClampNeg w = nI 0 → ocF (M 2 t).toNatClampNeg w (M 1 (b + 12 + t)) (M 0 9) = 1 := fun z => by rw [ocF_eq, if_pos z]
  have hq1 : ocF (M 2 t).toNatClampNeg w (M 1 (b + 12 + t)) (M 0 9) = 1 → qf (M 2 t).toNatClampNeg w = nI 0 := fun z => by
    by_cases c : qf (M 2 t).toNatClampNeg w = nI 0
    · exact c
    · rw [ocF_eq, if_neg c] at z
      split at z <;> exact absurd z (by decide)
  rcases ho with h0 | h0 | h0
  · rw [h0, if_pos rfl, if_pos rfl] at hQ
    have c1 : ¬ qf (M 2 t).toNatClampNeg w = nI 0 := fun z => by rw [hq z] at h0; exact absurd h0 (by decide)
    unfold tyM at hQ
    have d1 : ¬ ((1 : Nat) = 1 ∧ b + 12 + t = b + 6 + t) := by omega
    by_cases h1 : nI 0 < qf (M 2 t).toNatClampNeg w
    · rw [if_pos h1] at hQ
      have h2 : ¬ qf (M 2 t).toNatClampNeg w ≤ nI 0 := Int32.not_le.mpr h1
      simp (disch := first | assumption | omega) only [e160_0, e160_1, e160_2, e160_3, e160_6, e160_8, e160_10, e160_13, e160_14, e160_15, e160_16, e160_17, e160_20, e160_23, e160_24, e160_27, e160_28, e160_30, e160_32, e160_35, e160_36, e160_39, e160_40, e160_42, e160_43, e160_44, e160_45, e160_46, e160_49, e160_50, e160_52, e160_53, e160_54, e160_55, e160_56, e160_58, e160_59, e160_60, e160_61, e160_62, e160_63, e160_66, e160_67, e160_69, e160_70, e160_71, e160_72, e160_72q, e160_72r, e160_72rq, e160_73, e160_74, e160_76, e160_77, e160_78, e160_79, e160_82, e160_83, e160_85, e160_86, e160_87, e160_88, e160_90, e160_93, e160_94, e160_97, e160_98, e160_99, e160_101, q_gv0, q_gvs, q_isI1, q_isA1, q_hs0, q_hsn, q_hsi, q_hsr, q_hss, q_inc1, List.set_cons_zero, List.set_cons_succ, ↓reduceIte, q_ss0, q_ssi, q_ssr, q_nr0, q_nr10, q_nr11, q_tlS, q_tlN, q_cl, q_let, q_lef, q_ltt, q_ltf, q_eqt, q_eqf, q_add, q_mul, Nat.reduceAdd, Nat.reduceLeDiff, Nat.reduceEqDiff, eq_self, Nat.zero_le, Nat.le_refl, not_false_eq_true, not_true_eq_false, true_and, and_true, and_self, if_true, if_false, e160_72r, e160_72q, e160_72rq, p1.g0, p1.o, p1.l1, p1.s1, cl158 h158, cl159 h159, h0, c1, h2, q_upN]
      exact hQ
    · rw [if_neg h1] at hQ
      have h2 : qf (M 2 t).toNatClampNeg w ≤ nI 0 := Int32.not_lt.mp h1
      simp (disch := first | assumption | omega) only [e160_0, e160_1, e160_2, e160_3, e160_6, e160_8, e160_10, e160_13, e160_14, e160_15, e160_16, e160_17, e160_20, e160_23, e160_24, e160_27, e160_28, e160_30, e160_32, e160_35, e160_36, e160_39, e160_40, e160_42, e160_43, e160_44, e160_45, e160_46, e160_49, e160_50, e160_52, e160_53, e160_54, e160_55, e160_56, e160_58, e160_59, e160_60, e160_61, e160_62, e160_63, e160_66, e160_67, e160_69, e160_70, e160_71, e160_72, e160_72q, e160_72r, e160_72rq, e160_73, e160_74, e160_76, e160_77, e160_78, e160_79, e160_82, e160_83, e160_85, e160_86, e160_87, e160_88, e160_90, e160_93, e160_94, e160_97, e160_98, e160_99, e160_101, q_gv0, q_gvs, q_isI1, q_isA1, q_hs0, q_hsn, q_hsi, q_hsr, q_hss, q_inc1, List.set_cons_zero, List.set_cons_succ, ↓reduceIte, q_ss0, q_ssi, q_ssr, q_nr0, q_nr10, q_nr11, q_tlS, q_tlN, q_cl, q_let, q_lef, q_ltt, q_ltf, q_eqt, q_eqf, q_add, q_mul, Nat.reduceAdd, Nat.reduceLeDiff, Nat.reduceEqDiff, eq_self, Nat.zero_le, Nat.le_refl, not_false_eq_true, not_true_eq_false, true_and, and_true, and_self, if_true, if_false, e160_72r, e160_72q, e160_72rq, p1.g0, p1.o, p1.l1, p1.s1, cl158 h158, cl159 h159, h0, c1, h2, q_upN]
      exact hQ
  · rw [h0, if_neg (by decide), if_neg (by decide)] at hQ
    have c1 := hq1 h0
    simp (disch := first | assumption | omega) only [e160_0, e160_1, e160_2, e160_3, e160_6, e160_8, e160_10, e160_13, e160_14, e160_15, e160_16, e160_17, e160_20, e160_23, e160_24, e160_27, e160_28, e160_30, e160_32, e160_35, e160_36, e160_39, e160_40, e160_42, e160_43, e160_44, e160_45, e160_46, e160_49, e160_50, e160_52, e160_53, e160_54, e160_55, e160_56, e160_58, e160_59, e160_60, e160_61, e160_62, e160_63, e160_66, e160_67, e160_69, e160_70, e160_71, e160_72, e160_72q, e160_72r, e160_72rq, e160_73, e160_74, e160_76, e160_77, e160_78, e160_79, e160_82, e160_83, e160_85, e160_86, e160_87, e160_88, e160_90, e160_93, e160_94, e160_97, e160_98, e160_99, e160_101, q_gv0, q_gvs, q_isI1, q_isA1, q_hs0, q_hsn, q_hsi, q_hsr, q_hss, q_inc1, List.set_cons_zero, List.set_cons_succ, ↓reduceIte, q_ss0, q_ssi, q_ssr, q_nr0, q_nr10, q_nr11, q_tlS, q_tlN, q_cl, q_let, q_lef, q_ltt, q_ltf, q_eqt, q_eqf, q_add, q_mul, Nat.reduceAdd, Nat.reduceLeDiff, Nat.reduceEqDiff, eq_self, Nat.zero_le, Nat.le_refl, not_false_eq_true, not_true_eq_false, true_and, and_true, and_self, if_true, if_false, p1.g0, p1.o, cl158 h158, c1]
    exact hQ
  · rw [h0, if_neg (by decide), if_neg (by decide)] at hQ
    have c1 : ¬ qf (M 2 t).toNatClampNeg w = nI 0 := fun z => by rw [hq z] at h0; exact absurd h0 (by decide)
    simp (disch := first | assumption | omega) only [e160_0, e160_1, e160_2, e160_3, e160_6, e160_8, e160_10, e160_13, e160_14, e160_15, e160_16, e160_17, e160_20, e160_23, e160_24, e160_27, e160_28, e160_30, e160_32, e160_35, e160_36, e160_39, e160_40, e160_42, e160_43, e160_44, e160_45, e160_46, e160_49, e160_50, e160_52, e160_53, e160_54, e160_55, e160_56, e160_58, e160_59, e160_60, e160_61, e160_62, e160_63, e160_66, e160_67, e160_69, e160_70, e160_71, e160_72, e160_72q, e160_72r, e160_72rq, e160_73, e160_74, e160_76, e160_77, e160_78, e160_79, e160_82, e160_83, e160_85, e160_86, e160_87, e160_88, e160_90, e160_93, e160_94, e160_97, e160_98, e160_99, e160_101, q_gv0, q_gvs, q_isI1, q_isA1, q_hs0, q_hsn, q_hsi, q_hsr, q_hss, q_inc1, List.set_cons_zero, List.set_cons_succ, ↓reduceIte, q_ss0, q_ssi, q_ssr, q_nr0, q_nr10, q_nr11, q_tlS, q_tlN, q_cl, q_let, q_lef, q_ltt, q_ltf, q_eqt, q_eqf, q_add, q_mul, Nat.reduceAdd, Nat.reduceLeDiff, Nat.reduceEqDiff, eq_self, Nat.zero_le, Nat.le_refl, not_false_eq_true, not_true_eq_false, true_and, and_true, and_self, if_true, if_false, p1.g0, p1.o, cl158 h158, cl159 h159, h0, c1]
    exact hQ
