/-! the model: the text read -/
/-- the text's numbers -/
def tY (M : mv_Mem) : Prop := ∃ n, n ≤ 200 ∧ M 0 13 = nI n ∧ ∀ j, j < n → ∃ ch, ch < 128 ∧ 0 < ch ∧ M 7 j = nI ch
/-- its letters, 0 behind its end -/
def ly (M : mv_Mem) (p : Nat) : Nat := if p < (M 0 13).toNatClampNeg then (M 7 p).toNatClampNeg else 0
theorem ly_of {M N : mv_Mem} (h0 : N 0 13 = M 0 13) (h7 : N 7 = M 7) : ly N = ly M := by
  funext p
  unfold ly
  rw [h0, h7]
theorem tY_of {M N : mv_Mem} (h : tY M) (h0 : N 0 13 = M 0 13) (h7 : N 7 = M 7) : tY N := by
  unfold tY
  rw [h0, h7]
  exact h
theorem ly_lt {M : mv_Mem} (h : tY M) (p : Nat) : ly M p < 128 := by
  obtain ⟨n, hn, hN, hz⟩ := h
  unfold ly
  rw [hN, q_cl (by omega)]
  split
  · rename_i c
    obtain ⟨ch, h1, h2, h3⟩ := hz p c
    rw [h3, q_cl (by omega)]
    exact h1
  · decide
theorem ly_iff {M : mv_Mem} (h : tY M) (p : Nat) : ly M p ≠ 0 ↔ p < (M 0 13).toNatClampNeg := by
  obtain ⟨n, hn, hN, hz⟩ := h
  unfold ly
  rw [hN, q_cl (by omega)]
  split
  · rename_i c
    obtain ⟨ch, h1, h2, h3⟩ := hz p c
    rw [h3, q_cl (by omega)]
    constructor
    · intro _; exact c
    · intro _; omega
  · rename_i c
    constructor
    · intro z; exact absurd rfl z
    · intro z; exact absurd z c
theorem ly_at {M : mv_Mem} (h : tY M) {p : Nat} (hp : p < (M 0 13).toNatClampNeg) : M 7 p = nI (ly M p) := by
  obtain ⟨n, hn, hN, hz⟩ := h
  rw [hN, q_cl (by omega)] at hp
  obtain ⟨ch, h1, h2, h3⟩ := hz p hp
  unfold ly
  rw [hN, q_cl (show n < 2147483648 by omega), if_pos hp, h3, q_cl (by omega)]
theorem ly_end {M : mv_Mem} (h : tY M) {p : Nat} (hp : ly M p ≠ 0) : p < 200 := by
  have := (ly_iff h p).mp hp
  obtain ⟨n, hn, hN, -⟩ := h
  rw [hN, q_cl (by omega)] at this
  omega
theorem q_upC {M : mv_Mem} {x y : Int32} : mv_up (mv_up M 0 17 x) 0 18 y = mv_up (mv_up M 0 18 y) 0 17 x := by
  funext c j
  by_cases hc : c = 0
  · subst hc
    by_cases h1 : j = 17
    · subst h1
      rw [q_upN (by decide), q_upS, q_upS]
    · by_cases h2 : j = 18
      · subst h2
        rw [q_upS, q_upN (by decide), q_upS]
      · rw [q_upN (by omega), q_upN (by omega), q_upN (by omega), q_upN (by omega)]
  · rw [q_upO hc, q_upO hc, q_upO hc, q_upO hc]
/-- the place behind a sign, if it is there -/
def sgP (T : Nat → Nat) (c p : Nat) : Nat := if T p = c then p + 1 else p
def sp143 : mv_Sp := fun As sh M Q => ∃ (c : Nat), As = [.ref 0, .int (nI c)] ∧ ((oM sh) ∧ (tY M) ∧ (∃ p, p < 1000 ∧ M 0 17 = nI p) ∧ (c < 128) ∧ (0 < c)) ∧ Q (some (.int (nI (if ly M (M 0 17).toNatClampNeg = c then 1 else 0)))) (sh) (mv_up M 0 17 (nI (sgP (ly M) c (M 0 17).toNatClampNeg)))
theorem cl143 {S : Nat → mv_Sp} (hS : S 143 = sp143) {sh : mv_Shp} {M : mv_Mem} {c : Nat} (p1 : oM sh) (p2 : tY M) (p3 : ∃ p, p < 1000 ∧ M 0 17 = nI p) (p4 : c < 128) (p5 : 0 < c) {K : mv_Kt} {pc : Nat} {L : mv_Loc} {st : List Value} {cc_ ss_ : Nat} : mv_kal S 143 [.ref 0, .int (nI c)] sh M K pc L st cc_ ss_ = K pc L ((some (.int (nI (if ly M (M 0 17).toNatClampNeg = c then 1 else 0))) : Option Value).toList ++ st) (sh) (mv_up M 0 17 (nI (sgP (ly M) c (M 0 17).toNatClampNeg))) cc_ ss_ := by
  refine q_kal (fun F => q_cali (fun Q => ?_))
  rw [hS]
  constructor
  · rintro ⟨c', hE, ⟨zp1, zp2, zp3, zp4, zp5⟩, hQ⟩
    simp only [List.cons.injEq, Value.ref.injEq, Value.int.injEq, Value.long.injEq, and_true, true_and] at hE
    have e_c := hE
    have z_c := nI_inj e_c (by omega) (by omega)
    subst z_c
    exact hQ
  · intro hQ
    exact ⟨c, rfl, ⟨p1, p2, p3, p4, p5⟩, hQ⟩
theorem ct143 {S : Nat → mv_Sp}  : ∀ As sh M P, sp143 As sh M P → (mv_al0 As).length ≤ 3 ∧ mr143 S P 0 (mv_ent As 3) [] sh M 0 0 := by
  rintro As sh M P ⟨c, rfl, ⟨p1, p2, p3, p4, p5⟩, hQ⟩
  refine ⟨Nat.le_of_ble_eq_true rfl, ?_⟩
  show mr143 S P 0 [some (.ref 0), some (.int (nI c)), none] [] sh M 0 0
  obtain ⟨p, hp, hP⟩ := id p3
  unfold sgP at hQ
  rw [hP, q_cl (show p < 2147483648 by omega)] at hQ
  have hi := ly_iff p2 p
  have ha := @ly_at M p2 p
  have hl := ly_lt p2 p
  have he := @ly_end M p2 p
  obtain ⟨n, hn, hN, -⟩ := id p2
  rw [hN, q_cl (show n < 2147483648 by omega)] at hi ha
  by_cases c1 : p < n
  · have a1 := ha c1
    have p200 : p < 200 := by omega
    by_cases c2 : ly M p = c
    · rw [if_pos c2, if_pos c2] at hQ
      simp (disch := first | assumption | omega) only [e143_0, e143_1, e143_4, e143_5, e143_8, e143_11, e143_12, e143_15, e143_16, e143_19, e143_20, e143_21, e143_24, e143_25, e143_28, e143_29, e143_30, e143_31, e143_31r, e143_32, e143_35, e143_36, e143_39, e143_40, e143_43, e143_44, e143_45, e143_48, e143_49, e143_31r, q_gv0, q_gvs, q_isI1, q_isA1, q_hs0, q_hsn, q_hsi, q_hsr, q_hss, q_inc1, List.set_cons_zero, List.set_cons_succ, ↓reduceIte, q_ss0, q_ssi, q_ssr, q_nr0, q_nr10, q_nr11, q_tlS, q_tlN, q_cl, q_let, q_lef, q_ltt, q_ltf, q_eqt, q_eqf, q_add, q_mul, Nat.reduceAdd, Nat.reduceLeDiff, Nat.reduceEqDiff, eq_self, Nat.zero_le, Nat.le_refl, not_false_eq_true, not_true_eq_false, true_and, and_true, and_self, if_true, if_false, p1.g17, p1.g13, p1.g12, p1.l7, p1.p17, hP, hN, a1, c2]
      exact hQ
    · rw [if_neg c2, if_neg c2] at hQ
      simp (disch := first | assumption | omega) only [e143_0, e143_1, e143_4, e143_5, e143_8, e143_11, e143_12, e143_15, e143_16, e143_19, e143_20, e143_21, e143_24, e143_25, e143_28, e143_29, e143_30, e143_31, e143_31r, e143_32, e143_35, e143_36, e143_39, e143_40, e143_43, e143_44, e143_45, e143_48, e143_49, e143_31r, q_gv0, q_gvs, q_isI1, q_isA1, q_hs0, q_hsn, q_hsi, q_hsr, q_hss, q_inc1, List.set_cons_zero, List.set_cons_succ, ↓reduceIte, q_ss0, q_ssi, q_ssr, q_nr0, q_nr10, q_nr11, q_tlS, q_tlN, q_cl, q_let, q_lef, q_ltt, q_ltf, q_eqt, q_eqf, q_add, q_mul, Nat.reduceAdd, Nat.reduceLeDiff, Nat.reduceEqDiff, eq_self, Nat.zero_le, Nat.le_refl, not_false_eq_true, not_true_eq_false, true_and, and_true, and_self, if_true, if_false, p1.g17, p1.g13, p1.g12, p1.l7, p1.p17, hP, hN, a1, c2]
      exact hQ
  · have c2 : ¬ ly M p = c := by
      intro z
      exact c1 (hi.mp (by omega))
    rw [if_neg c2, if_neg c2] at hQ
    simp (disch := first | assumption | omega) only [e143_0, e143_1, e143_4, e143_5, e143_8, e143_11, e143_12, e143_15, e143_16, e143_19, e143_20, e143_21, e143_24, e143_25, e143_28, e143_29, e143_30, e143_31, e143_31r, e143_32, e143_35, e143_36, e143_39, e143_40, e143_43, e143_44, e143_45, e143_48, e143_49, e143_31r, q_gv0, q_gvs, q_isI1, q_isA1, q_hs0, q_hsn, q_hsi, q_hsr, q_hss, q_inc1, List.set_cons_zero, List.set_cons_succ, ↓reduceIte, q_ss0, q_ssi, q_ssr, q_nr0, q_nr10, q_nr11, q_tlS, q_tlN, q_cl, q_let, q_lef, q_ltt, q_ltf, q_eqt, q_eqf, q_add, q_mul, Nat.reduceAdd, Nat.reduceLeDiff, Nat.reduceEqDiff, eq_self, Nat.zero_le, Nat.le_refl, not_false_eq_true, not_true_eq_false, true_and, and_true, and_self, if_true, if_false, p1.g17, p1.g13, p1.g12, p1.l7, p1.p17, hP, hN]
    exact hQ
theorem fg_in {T : Nat → Nat} {p : Nat} (h : T p < 128) : inN (nI (T p)) (nI 48) (nI 57) = if fgF T p = 0 then 0 else 1 := by
  unfold inN fgF
  by_cases c1 : T p < 48
  · rw [if_pos ((nI_ltI (by omega) (by omega)).mpr c1), if_neg (show ¬ (48 ≤ T p ∧ T p ≤ 57) by omega), if_pos rfl]
  · rw [if_neg (fun z => c1 ((nI_ltI (by omega) (by omega)).mp z))]
    by_cases c2 : 57 < T p
    · rw [if_pos ((nI_ltI (by omega) (by omega)).mpr c2), if_neg (show ¬ (48 ≤ T p ∧ T p ≤ 57) by omega), if_pos rfl]
    · rw [if_neg (fun z => c2 ((nI_ltI (by omega) (by omega)).mp z)), if_pos (show 48 ≤ T p ∧ T p ≤ 57 by omega), if_neg (by omega)]
def sp145 : mv_Sp := fun As sh M Q => As = [.ref 0] ∧ ((oM sh) ∧ (tY M) ∧ (∃ p, p < 1000 ∧ M 0 17 = nI p)) ∧ Q (some (.int (nI (if fgF (ly M) (M 0 17).toNatClampNeg = 0 then 0 else 1)))) (sh) (M)
theorem cl145 {S : Nat → mv_Sp} (hS : S 145 = sp145) {sh : mv_Shp} {M : mv_Mem}  (p1 : oM sh) (p2 : tY M) (p3 : ∃ p, p < 1000 ∧ M 0 17 = nI p) {K : mv_Kt} {pc : Nat} {L : mv_Loc} {st : List Value} {cc_ ss_ : Nat} : mv_kal S 145 [.ref 0] sh M K pc L st cc_ ss_ = K pc L ((some (.int (nI (if fgF (ly M) (M 0 17).toNatClampNeg = 0 then 0 else 1))) : Option Value).toList ++ st) (sh) (M) cc_ ss_ := by
  refine q_kal (fun F => q_cali (fun Q => ?_))
  rw [hS]
  constructor
  · rintro ⟨hE, ⟨zp1, zp2, zp3⟩, hQ⟩
    exact hQ
  · intro hQ
    exact ⟨rfl, ⟨p1, p2, p3⟩, hQ⟩
theorem ct145 {S : Nat → mv_Sp} (h144 : S 144 = sp144) : ∀ As sh M P, sp145 As sh M P → (mv_al0 As).length ≤ 1 ∧ mr145 S P 0 (mv_ent As 1) [] sh M 0 0 := by
  rintro As sh M P ⟨rfl, ⟨p1, p2, p3⟩, hQ⟩
  refine ⟨Nat.le_of_ble_eq_true rfl, ?_⟩
  show mr145 S P 0 [some (.ref 0)] [] sh M 0 0
  obtain ⟨p, hp, hP⟩ := id p3
  rw [hP, q_cl (show p < 2147483648 by omega)] at hQ
  have hi := ly_iff p2 p
  have ha := @ly_at M p2 p
  have hl := ly_lt p2 p
  have hf := fg_in hl
  obtain ⟨n, hn, hN, -⟩ := id p2
  rw [hN, q_cl (show n < 2147483648 by omega)] at hi ha
  by_cases c1 : p < n
  · have a1 := ha c1
    have p200 : p < 200 := by omega
    by_cases c2 : fgF (ly M) p = 0
    · rw [if_pos c2] at hQ hf
      simp (disch := first | assumption | omega) only [e145_0, e145_1, e145_4, e145_5, e145_8, e145_11, e145_12, e145_15, e145_16, e145_19, e145_20, e145_21, e145_24, e145_27, e145_30, e145_33, e145_34, e145_37, e145_38, q_gv0, q_gvs, q_isI1, q_isA1, q_hs0, q_hsn, q_hsi, q_hsr, q_hss, q_inc1, List.set_cons_zero, List.set_cons_succ, ↓reduceIte, q_ss0, q_ssi, q_ssr, q_nr0, q_nr10, q_nr11, q_tlS, q_tlN, q_cl, q_let, q_lef, q_ltt, q_ltf, q_eqt, q_eqf, q_add, q_mul, Nat.reduceAdd, Nat.reduceLeDiff, Nat.reduceEqDiff, eq_self, Nat.zero_le, Nat.le_refl, not_false_eq_true, not_true_eq_false, true_and, and_true, and_self, if_true, if_false, q_isL1, p1.g17, p1.g13, p1.g12, p1.l7, hP, hN, a1, q_lc, cr144 h144, hf]
      exact hQ
    · rw [if_neg c2] at hQ hf
      simp (disch := first | assumption | omega) only [e145_0, e145_1, e145_4, e145_5, e145_8, e145_11, e145_12, e145_15, e145_16, e145_19, e145_20, e145_21, e145_24, e145_27, e145_30, e145_33, e145_34, e145_37, e145_38, q_gv0, q_gvs, q_isI1, q_isA1, q_hs0, q_hsn, q_hsi, q_hsr, q_hss, q_inc1, List.set_cons_zero, List.set_cons_succ, ↓reduceIte, q_ss0, q_ssi, q_ssr, q_nr0, q_nr10, q_nr11, q_tlS, q_tlN, q_cl, q_let, q_lef, q_ltt, q_ltf, q_eqt, q_eqf, q_add, q_mul, Nat.reduceAdd, Nat.reduceLeDiff, Nat.reduceEqDiff, eq_self, Nat.zero_le, Nat.le_refl, not_false_eq_true, not_true_eq_false, true_and, and_true, and_self, if_true, if_false, q_isL1, p1.g17, p1.g13, p1.g12, p1.l7, hP, hN, a1, q_lc, cr144 h144, hf]
      exact hQ
  · have c2 : fgF (ly M) p = 0 := by
      have : ly M p = 0 := by
        by_cases z : ly M p = 0
        · exact z
        · exact absurd (hi.mp z) c1
      unfold fgF
      rw [this]
      rfl
    rw [if_pos c2] at hQ
    simp (disch := first | assumption | omega) only [e145_0, e145_1, e145_4, e145_5, e145_8, e145_11, e145_12, e145_15, e145_16, e145_19, e145_20, e145_21, e145_24, e145_27, e145_30, e145_33, e145_34, e145_37, e145_38, q_gv0, q_gvs, q_isI1, q_isA1, q_hs0, q_hsn, q_hsi, q_hsr, q_hss, q_inc1, List.set_cons_zero, List.set_cons_succ, ↓reduceIte, q_ss0, q_ssi, q_ssr, q_nr0, q_nr10, q_nr11, q_tlS, q_tlN, q_cl, q_let, q_lef, q_ltt, q_ltf, q_eqt, q_eqf, q_add, q_mul, Nat.reduceAdd, Nat.reduceLeDiff, Nat.reduceEqDiff, eq_self, Nat.zero_le, Nat.le_refl, not_false_eq_true, not_true_eq_false, true_and, and_true, and_self, if_true, if_false, p1.g17, p1.g13, hP, hN]
    exact hQ
theorem fgY_end {M : mv_Mem} (h : tY M) {p : Nat} (hp : fgF (ly M) p ≠ 0) : p < 200 ∧ p < (M 0 13).toNatClampNeg ∧ M 7 p = nI (fgF (ly M) p + 47) := by
  have h0 : ly M p ≠ 0 := fun z => hp (by unfold fgF; rw [z]; rfl)
  have h1 := (ly_iff h p).mp h0
  have hl := ly_lt h p
  refine ⟨ly_end h h0, h1, ?_⟩
  rw [ly_at h h1]
  congr 1
  unfold fgF at hp ⊢
  split
  · omega
  · rename_i z
    exact absurd (if_neg z) hp
theorem fgY0 {M : mv_Mem} {x : Int32} {j : Nat} (hj : j = 17 ∨ j = 18) : ly (mv_up M 0 j x) = ly M := ly_of (q_upN (by omega)) (q_upO (by decide))
theorem tY0 {M : mv_Mem} {x : Int32} {j : Nat} (h : tY M) (hj : j ≠ 13) : tY (mv_up M 0 j x) := tY_of h (q_upN (by omega)) (q_upO (by decide))
def nuM (M : mv_Mem) : mv_Mem := mv_up (mv_up M 0 18 (nI (nbF (ly M) (M 0 17).toNatClampNeg - 1))) 0 17 (nI (nbP (ly M) (M 0 17).toNatClampNeg))
def sp146 : mv_Sp := fun As sh M Q => ∃ (a : Nat) (b : Nat), As = [.ref 0, .int (nI a), .int (nI b)] ∧ ((oM sh) ∧ (tY M) ∧ (∃ p, p < 900 ∧ M 0 17 = nI p) ∧ (a < 100) ∧ (b < 100)) ∧ Q (some (.int (nI (if nbF (ly M) (M 0 17).toNatClampNeg = 0 then 0 else inN (nI (nbF (ly M) (M 0 17).toNatClampNeg - 1)) (nI a) (nI b))))) (sh) (nuM M)
theorem cl146 {S : Nat → mv_Sp} (hS : S 146 = sp146) {sh : mv_Shp} {M : mv_Mem} {a : Nat} {b : Nat} (p1 : oM sh) (p2 : tY M) (p3 : ∃ p, p < 900 ∧ M 0 17 = nI p) (p4 : a < 100) (p5 : b < 100) {K : mv_Kt} {pc : Nat} {L : mv_Loc} {st : List Value} {cc_ ss_ : Nat} : mv_kal S 146 [.ref 0, .int (nI a), .int (nI b)] sh M K pc L st cc_ ss_ = K pc L ((some (.int (nI (if nbF (ly M) (M 0 17).toNatClampNeg = 0 then 0 else inN (nI (nbF (ly M) (M 0 17).toNatClampNeg - 1)) (nI a) (nI b)))) : Option Value).toList ++ st) (sh) (nuM M) cc_ ss_ := by
  refine q_kal (fun F => q_cali (fun Q => ?_))
  rw [hS]
  constructor
  · rintro ⟨a', b', hE, ⟨zp1, zp2, zp3, zp4, zp5⟩, hQ⟩
    simp only [List.cons.injEq, Value.ref.injEq, Value.int.injEq, Value.long.injEq, and_true, true_and] at hE
    obtain ⟨e_a, e_b⟩ := hE
    have z_a := nI_inj e_a (by omega) (by omega)
    subst z_a
    have z_b := nI_inj e_b (by omega) (by omega)
    subst z_b
    exact hQ
  · intro hQ
    exact ⟨a, b, rfl, ⟨p1, p2, p3, p4, p5⟩, hQ⟩
theorem ct146 {S : Nat → mv_Sp} (h144 : S 144 = sp144) (h145 : S 145 = sp145) : ∀ As sh M P, sp146 As sh M P → (mv_al0 As).length ≤ 4 ∧ mr146 S P 0 (mv_ent As 4) [] sh M 0 0 := by
  rintro As sh M P ⟨a, b, rfl, ⟨p1, p2, p3, p4, p5⟩, hQ⟩
  refine ⟨Nat.le_of_ble_eq_true rfl, ?_⟩
  show mr146 S P 0 [some (.ref 0), some (.int (nI a)), some (.int (nI b)), none] [] sh M 0 0
  obtain ⟨p, hp, hP⟩ := id p3
  unfold nuM at hQ
  rw [hP, q_cl (show p < 2147483648 by omega)] at hQ
  have f1 := fgF_le (ly M) p
  have f2 := fgF_le (ly M) (p + 1)
  have g1 := @fgY_end M p2 p
  have g2 := @fgY_end M p2 (p + 1)
  have hly : ∀ {j : Nat} {x : Int32} {N : mv_Mem}, (j = 17 ∨ j = 18) → ly (mv_up N 0 j x) = ly N := fun h => fgY0 h
  have q17 : (17 : Nat) = 17 ∨ (17 : Nat) = 18 := by decide
  have q18 : (18 : Nat) = 17 ∨ (18 : Nat) = 18 := by decide
  have t0 : tY (mv_up M 0 18 (nI 0)) := tY0 p2 (by decide)
  have x0 : ∃ q, q < 1000 ∧ mv_up M 0 18 (nI 0) 0 17 = nI q := ⟨p, by omega, by rw [q_upN (by decide)]; exact hP⟩
  by_cases c1 : fgF (ly M) p = 0
  · have e1 : nbF (ly M) p = 0 := if_pos c1
    have e2 : nbP (ly M) p = p := if_pos c1
    rw [e1, e2, if_pos rfl] at hQ
    have e3 : mv_up (mv_up M 0 18 (nI 0)) 0 17 (nI p) = mv_up M 0 18 (nI 0) := up_id (by rw [q_upN (by decide)]; exact hP)
    rw [e3] at hQ
    simp (disch := first | assumption | omega) only [e146_0, e146_1, e146_4, e146_5, e146_6, e146_7, e146_10, e146_11, e146_14, e146_15, e146_16, e146_17, e146_20, e146_21, e146_24, e146_27, e146_28, e146_30, e146_31, e146_34, e146_35, e146_36, e146_39, e146_40, e146_43, e146_44, e146_45, e146_47, e146_48, e146_51, e146_52, e146_52r, e146_53, e146_56, e146_57, e146_58, e146_61, e146_64, e146_65, e146_68, e146_69, e146_72, e146_73, e146_76, e146_77, e146_78, e146_79, e146_80, e146_81, e146_84, e146_87, e146_88, e146_91, e146_92, q_gv0, q_gvs, q_isI1, q_isA1, q_hs0, q_hsn, q_hsi, q_hsr, q_hss, q_inc1, List.set_cons_zero, List.set_cons_succ, ↓reduceIte, q_ss0, q_ssi, q_ssr, q_nr0, q_nr10, q_nr11, q_tlS, q_tlN, q_cl, q_let, q_lef, q_ltt, q_ltf, q_eqt, q_eqf, q_add, q_mul, Nat.reduceAdd, Nat.reduceLeDiff, Nat.reduceEqDiff, eq_self, Nat.zero_le, Nat.le_refl, not_false_eq_true, not_true_eq_false, true_and, and_true, and_self, if_true, if_false, p1.g17, p1.g18, p1.p18, p1.o, hP, q_upN, q_upS, cl145 h145, hly, c1]
    exact hQ
  · obtain ⟨g1a, g1b, g1c⟩ := g1 c1
    have t1 : tY (mv_up (mv_up M 0 18 (nI (fgF (ly M) p - 1))) 0 17 (nI (p + 1))) := tY0 (tY0 p2 (by decide)) (by decide)
    have x1 : ∃ q, q < 1000 ∧ mv_up (mv_up M 0 18 (nI (fgF (ly M) p - 1))) 0 17 (nI (p + 1)) 0 17 = nI q := ⟨p + 1, by omega, q_upS⟩
    have s1 : fgF (ly M) p + 47 - 48 = fgF (ly M) p - 1 := by omega
    have i1 := inN_01 (nI (fgF (ly M) p - 1)) (nI a) (nI b)
    by_cases c2 : fgF (ly M) (p + 1) = 0
    · have e1 : nbF (ly M) p = fgF (ly M) p := by unfold nbF; rw [if_neg c1, if_pos c2]
      have e2 : nbP (ly M) p = p + 1 := by unfold nbP; rw [if_neg c1, if_pos c2]
      rw [e1, e2, if_neg c1] at hQ
      rcases i1 with i1 | i1
      · rw [i1] at hQ
        simp (disch := first | assumption | omega) only [e146_0, e146_1, e146_4, e146_5, e146_6, e146_7, e146_10, e146_11, e146_14, e146_15, e146_16, e146_17, e146_20, e146_21, e146_24, e146_27, e146_28, e146_30, e146_31, e146_34, e146_35, e146_36, e146_39, e146_40, e146_43, e146_44, e146_45, e146_47, e146_48, e146_51, e146_52, e146_52r, e146_53, e146_56, e146_57, e146_58, e146_61, e146_64, e146_65, e146_68, e146_69, e146_72, e146_73, e146_76, e146_77, e146_78, e146_79, e146_80, e146_81, e146_84, e146_87, e146_88, e146_91, e146_92, e146_52r, q_gv0, q_gvs, q_isI1, q_isA1, q_hs0, q_hsn, q_hsi, q_hsr, q_hss, q_inc1, List.set_cons_zero, List.set_cons_succ, ↓reduceIte, q_ss0, q_ssi, q_ssr, q_nr0, q_nr10, q_nr11, q_tlS, q_tlN, q_cl, q_let, q_lef, q_ltt, q_ltf, q_eqt, q_eqf, q_add, q_mul, Nat.reduceAdd, Nat.reduceLeDiff, Nat.reduceEqDiff, eq_self, Nat.zero_le, Nat.le_refl, not_false_eq_true, not_true_eq_false, true_and, and_true, and_self, if_true, if_false, q_isL1, Nat.mul_zero, Nat.zero_add, p1.g12, p1.l7, p1.p17, p1.g17, p1.g18, p1.p18, p1.o, hP, q_upN, q_upS, q_upO, q_upup, q_upC, q_sub, cl145 h145, hly, c1, c2, g1c, s1, cr144 h144, i1]
        exact hQ
      · rw [i1] at hQ
        simp (disch := first | assumption | omega) only [e146_0, e146_1, e146_4, e146_5, e146_6, e146_7, e146_10, e146_11, e146_14, e146_15, e146_16, e146_17, e146_20, e146_21, e146_24, e146_27, e146_28, e146_30, e146_31, e146_34, e146_35, e146_36, e146_39, e146_40, e146_43, e146_44, e146_45, e146_47, e146_48, e146_51, e146_52, e146_52r, e146_53, e146_56, e146_57, e146_58, e146_61, e146_64, e146_65, e146_68, e146_69, e146_72, e146_73, e146_76, e146_77, e146_78, e146_79, e146_80, e146_81, e146_84, e146_87, e146_88, e146_91, e146_92, e146_52r, q_gv0, q_gvs, q_isI1, q_isA1, q_hs0, q_hsn, q_hsi, q_hsr, q_hss, q_inc1, List.set_cons_zero, List.set_cons_succ, ↓reduceIte, q_ss0, q_ssi, q_ssr, q_nr0, q_nr10, q_nr11, q_tlS, q_tlN, q_cl, q_let, q_lef, q_ltt, q_ltf, q_eqt, q_eqf, q_add, q_mul, Nat.reduceAdd, Nat.reduceLeDiff, Nat.reduceEqDiff, eq_self, Nat.zero_le, Nat.le_refl, not_false_eq_true, not_true_eq_false, true_and, and_true, and_self, if_true, if_false, q_isL1, Nat.mul_zero, Nat.zero_add, p1.g12, p1.l7, p1.p17, p1.g17, p1.g18, p1.p18, p1.o, hP, q_upN, q_upS, q_upO, q_upup, q_upC, q_sub, cl145 h145, hly, c1, c2, g1c, s1, cr144 h144, i1]
        exact hQ
    · obtain ⟨g2a, g2b, g2c⟩ := g2 c2
      have e1 : nbF (ly M) p = (fgF (ly M) p - 1) * 10 + (fgF (ly M) (p + 1) - 1) + 1 := by unfold nbF; rw [if_neg c1, if_neg c2]
      have e2 : nbP (ly M) p = p + 2 := by unfold nbP; rw [if_neg c1, if_neg c2]
      have e3 : (fgF (ly M) p - 1) * 10 + (fgF (ly M) (p + 1) - 1) + 1 - 1 = 10 * (fgF (ly M) p - 1) + (fgF (ly M) (p + 1) + 47) - 48 := by omega
      rw [e1, e2, if_neg (by omega), e3] at hQ
      have i2 := inN_01 (nI (10 * (fgF (ly M) p - 1) + (fgF (ly M) (p + 1) + 47) - 48)) (nI a) (nI b)
      rcases i2 with i2 | i2
      · rw [i2] at hQ
        simp (disch := first | assumption | omega) only [e146_0, e146_1, e146_4, e146_5, e146_6, e146_7, e146_10, e146_11, e146_14, e146_15, e146_16, e146_17, e146_20, e146_21, e146_24, e146_27, e146_28, e146_30, e146_31, e146_34, e146_35, e146_36, e146_39, e146_40, e146_43, e146_44, e146_45, e146_47, e146_48, e146_51, e146_52, e146_52r, e146_53, e146_56, e146_57, e146_58, e146_61, e146_64, e146_65, e146_68, e146_69, e146_72, e146_73, e146_76, e146_77, e146_78, e146_79, e146_80, e146_81, e146_84, e146_87, e146_88, e146_91, e146_92, e146_52r, q_gv0, q_gvs, q_isI1, q_isA1, q_hs0, q_hsn, q_hsi, q_hsr, q_hss, q_inc1, List.set_cons_zero, List.set_cons_succ, ↓reduceIte, q_ss0, q_ssi, q_ssr, q_nr0, q_nr10, q_nr11, q_tlS, q_tlN, q_cl, q_let, q_lef, q_ltt, q_ltf, q_eqt, q_eqf, q_add, q_mul, Nat.reduceAdd, Nat.reduceLeDiff, Nat.reduceEqDiff, eq_self, Nat.zero_le, Nat.le_refl, not_false_eq_true, not_true_eq_false, true_and, and_true, and_self, if_true, if_false, q_isL1, Nat.mul_zero, Nat.zero_add, p1.g12, p1.l7, p1.p17, p1.g17, p1.g18, p1.p18, p1.o, hP, q_upN, q_upS, q_upO, q_upup, q_upC, q_sub, cl145 h145, hly, c1, c2, g1c, g2c, s1, cr144 h144, i2]
        exact hQ
      · rw [i2] at hQ
        simp (disch := first | assumption | omega) only [e146_0, e146_1, e146_4, e146_5, e146_6, e146_7, e146_10, e146_11, e146_14, e146_15, e146_16, e146_17, e146_20, e146_21, e146_24, e146_27, e146_28, e146_30, e146_31, e146_34, e146_35, e146_36, e146_39, e146_40, e146_43, e146_44, e146_45, e146_47, e146_48, e146_51, e146_52, e146_52r, e146_53, e146_56, e146_57, e146_58, e146_61, e146_64, e146_65, e146_68, e146_69, e146_72, e146_73, e146_76, e146_77, e146_78, e146_79, e146_80, e146_81, e146_84, e146_87, e146_88, e146_91, e146_92, e146_52r, q_gv0, q_gvs, q_isI1, q_isA1, q_hs0, q_hsn, q_hsi, q_hsr, q_hss, q_inc1, List.set_cons_zero, List.set_cons_succ, ↓reduceIte, q_ss0, q_ssi, q_ssr, q_nr0, q_nr10, q_nr11, q_tlS, q_tlN, q_cl, q_let, q_lef, q_ltt, q_ltf, q_eqt, q_eqf, q_add, q_mul, Nat.reduceAdd, Nat.reduceLeDiff, Nat.reduceEqDiff, eq_self, Nat.zero_le, Nat.le_refl, not_false_eq_true, not_true_eq_false, true_and, and_true, and_self, if_true, if_false, q_isL1, Nat.mul_zero, Nat.zero_add, p1.g12, p1.l7, p1.p17, p1.g17, p1.g18, p1.p18, p1.o, hP, q_upN, q_upS, q_upO, q_upup, q_upC, q_sub, cl145 h145, hly, c1, c2, g1c, g2c, s1, cr144 h144, i2]
        exact hQ
