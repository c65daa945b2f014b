/-! the model: the search's line -/
def plN (a b : Nat) : Nat := (a ^^^ b) ^^^ (((a &&& b) &&& 1365) * 2)
theorem plT_N (a b : Nat) : plT (nI a) (nI b) = nI (plN a b) := by
  have h : (a &&& b) &&& 1365 ≤ 1365 := Nat.and_le_right
  have e : nI ((a &&& b) &&& 1365) <<< (nI 1 &&& 31) = nI (((a &&& b) &&& 1365) * 2 ^ 1) := pk_shlN (nI 1 &&& 31) 1 (by decide) (by omega)
  unfold plT plN
  rw [nI_xorN, nI_andN, nI_andN, e, nI_xorN]
theorem pow4 (n : Nat) : 4 ^ n = 2 ^ (2 * n) := by rw [Nat.pow_mul]
theorem pl_mask {n c : Nat} (hn : n ≤ 6) (h : c &&& 1365 < 4 ^ n) : (c &&& 1365) * 2 < 4 ^ n := by
  rcases Nat.eq_zero_or_pos n with h0 | h0
  · subst h0
    omega
  · rw [pow4] at h ⊢
    have h1 : c &&& 1365 < 2 ^ (2 * n - 1) := by
      refine Nat.lt_pow_two_of_testBit _ (fun i hi => ?_)
      by_cases z : i = 2 * n - 1
      · subst z
        rw [Nat.testBit_and]
        have : Nat.testBit 1365 (2 * n - 1) = false := by
          rcases (show n = 1 ∨ n = 2 ∨ n = 3 ∨ n = 4 ∨ n = 5 ∨ n = 6 by omega) with rfl | rfl | rfl | rfl | rfl | rfl <;> decide
        rw [this, Bool.and_false]
      · exact Nat.testBit_lt_two_pow (Nat.lt_of_lt_of_le h (Nat.pow_le_pow_right (by decide) (by omega)))
    have h2 : 2 ^ (2 * n) = 2 ^ (2 * n - 1) * 2 := by
      rw [← Nat.pow_succ]
      congr 1
      omega
    omega
theorem plN_lt {n a b : Nat} (hn : n ≤ 6) (ha : a < 4 ^ n) (hb : b < 4 ^ n) : plN a b < 4 ^ n := by
  have h1 : 4 ^ n ≤ 4096 := (four ⟨n, by omega⟩).2
  have h3 := pl_mask (c := a &&& b) hn (Nat.lt_of_le_of_lt (Nat.le_trans Nat.and_le_left Nat.and_le_left) ha)
  unfold plN
  rw [pow4] at ha hb h3 ⊢
  exact Nat.xor_lt_two_pow (Nat.xor_lt_two_pow ha hb) h3
theorem cr171 {S : Nat → mv_Sp} (h : S 171 = sp171) {sh : mv_Shp} {M : mv_Mem} {a b : Nat} {K : mv_Kt} {pc : Nat} {L : mv_Loc} {st : List Value} {c s : Nat} :
    mv_kal S 171 [.int (nI a), .int (nI b)] sh M K pc L st c s = K pc L ((some (.int (nI (plN a b)))).toList ++ st) sh M c s := by
  rw [cl171 h trivial, plT_N]
/-- h met, from f, by b, if it wasn't yet -/
def coM (M : mv_Mem) (h : Nat) (f b : Int32) : mv_Mem := if M 20 h < nI 0 then mv_up (mv_up (mv_up (mv_up M 20 h b) 19 h f) 21 (M 0 36).toNatClampNeg (nI h)) 0 36 (nI ((M 0 36).toNatClampNeg + 1)) else M
def sp177 : mv_Sp := fun As sh M Q => ∃ (h : Nat) (f : Int32) (b : Int32), As = [.ref 0, .int (nI h), .int f, .int b] ∧ ((oM sh) ∧ (h < 4096) ∧ (∃ l, l ≤ 4096 ∧ M 0 36 = nI l ∧ (M 20 h < nI 0 → l < 4096))) ∧ Q (none) (sh) (coM M h f b)
theorem cl177 {S : Nat → mv_Sp} (hS : S 177 = sp177) {sh : mv_Shp} {M : mv_Mem} {h : Nat} {f : Int32} {b : Int32} (p1 : oM sh) (p2 : h < 4096) (p3 : ∃ l, l ≤ 4096 ∧ M 0 36 = nI l ∧ (M 20 h < nI 0 → l < 4096)) {K : mv_Kt} {pc : Nat} {L : mv_Loc} {st : List Value} {cc_ ss_ : Nat} : mv_kal S 177 [.ref 0, .int (nI h), .int f, .int b] sh M K pc L st cc_ ss_ = K pc L ((none : Option Value).toList ++ st) (sh) (coM M h f b) cc_ ss_ := by
  refine q_kal (fun F => q_cali (fun Q => ?_))
  rw [hS]
  constructor
  · rintro ⟨h', f', b', hE, ⟨zp1, zp2, zp3⟩, hQ⟩
    simp only [List.cons.injEq, Value.ref.injEq, Value.int.injEq, Value.long.injEq, and_true, true_and] at hE
    obtain ⟨e_h, rfl, rfl⟩ := hE
    have z_h := nI_inj e_h (by omega) (by omega)
    subst z_h
    exact hQ
  · intro hQ
    exact ⟨h, f, b, rfl, ⟨p1, p2, p3⟩, hQ⟩
theorem ct177 {S : Nat → mv_Sp}  : ∀ As sh M P, sp177 As sh M P → (mv_al0 As).length ≤ 4 ∧ mr177 S P 0 (mv_ent As 4) [] sh M 0 0 := by
  rintro As sh M P ⟨h, f, b, rfl, ⟨p1, p2, p3⟩, hQ⟩
  refine ⟨Nat.le_of_ble_eq_true rfl, ?_⟩
  show mr177 S P 0 [some (.ref 0), some (.int (nI h)), some (.int f), some (.int b)] [] sh M 0 0
  obtain ⟨l, hl, hL, hl2⟩ := p3
  unfold coM at hQ
  by_cases c : M 20 h < nI 0
  · have l4 := hl2 c
    rw [if_pos c, hL, q_cl (by omega)] at hQ
    have c2 : ¬ nI 0 ≤ M 20 h := Int32.not_le.mpr c
    simp (disch := first | assumption | omega) only [e177_0, e177_1, e177_4, e177_5, e177_6, e177_9, e177_10, e177_13, e177_14, e177_15, e177_16, e177_17, e177_20, e177_21, e177_22, e177_23, e177_24, e177_27, e177_28, e177_31, e177_32, e177_33, e177_34, e177_34r, e177_35, e177_38, e177_39, e177_40, e177_43, e177_34r, q_gv0, q_gvs, q_isI1, q_isA1, q_hs0, q_hsn, q_hsi, q_hsr, q_hss, q_inc1, List.set_cons_zero, List.set_cons_succ, ↓reduceIte, q_ss0, q_ssi, q_ssr, q_nr0, q_nr10, q_nr11, q_tlS, q_tlN, q_cl, q_let, q_lef, q_ltt, q_ltf, q_eqt, q_eqf, q_add, q_mul, Nat.reduceAdd, Nat.reduceLeDiff, Nat.reduceEqDiff, eq_self, Nat.zero_le, Nat.le_refl, not_false_eq_true, not_true_eq_false, true_and, and_true, and_self, if_true, if_false, p1.g33, p1.g34, p1.g35, p1.g36, p1.p36, p1.l20, p1.s19, p1.s20, p1.s21, q_upO, hL, c2]
    exact hQ
  · rw [if_neg c] at hQ
    have c2 : nI 0 ≤ M 20 h := Int32.not_lt.mp c
    simp (disch := first | assumption | omega) only [e177_0, e177_1, e177_4, e177_5, e177_6, e177_9, e177_10, e177_13, e177_14, e177_15, e177_16, e177_17, e177_20, e177_21, e177_22, e177_23, e177_24, e177_27, e177_28, e177_31, e177_32, e177_33, e177_34, e177_34r, e177_35, e177_38, e177_39, e177_40, e177_43, q_gv0, q_gvs, q_isI1, q_isA1, q_hs0, q_hsn, q_hsi, q_hsr, q_hss, q_inc1, List.set_cons_zero, List.set_cons_succ, ↓reduceIte, q_ss0, q_ssi, q_ssr, q_nr0, q_nr10, q_nr11, q_tlS, q_tlN, q_cl, q_let, q_lef, q_ltt, q_ltf, q_eqt, q_eqf, q_add, q_mul, Nat.reduceAdd, Nat.reduceLeDiff, Nat.reduceEqDiff, eq_self, Nat.zero_le, Nat.le_refl, not_false_eq_true, not_true_eq_false, true_and, and_true, and_self, if_true, if_false, p1.g34, p1.l20, c2]
    exact hQ
/-- how many below n are met -/
def mtF (M : mv_Mem) : Nat → Nat
  | 0 => 0
  | n + 1 => mtF M n + (if M 20 n < nI 0 then 0 else 1)
theorem mtF_le (M : mv_Mem) : ∀ n, mtF M n ≤ n
  | 0 => Nat.le_refl _
  | n + 1 => by
    have := mtF_le M n
    unfold mtF
    split <;> omega
theorem mtF_lt {M : mv_Mem} {h : Nat} (hh : M 20 h < nI 0) : ∀ n, h < n → mtF M n < n
  | 0, z => absurd z (by omega)
  | n + 1, z => by
    have := mtF_le M n
    unfold mtF
    by_cases e : h = n
    · subst e
      rw [if_pos hh]
      omega
    · have := mtF_lt hh n (by omega)
      split <;> omega
theorem mtF_up {M N : mv_Mem} {h : Nat} {b : Int32} (e : N 20 = fun j => if j = h then b else M 20 j) (hh : M 20 h < nI 0) (hb : ¬ b < nI 0) : ∀ n, mtF N n = mtF M n + (if h < n then 1 else 0)
  | 0 => rfl
  | n + 1 => by
    have ih := mtF_up e hh hb n
    unfold mtF
    rw [ih]
    by_cases z : n = h
    · subst z
      have e1 : N 20 n = b := by rw [e]; exact if_pos rfl
      rw [e1, if_neg hb, if_pos hh, if_neg (show ¬ n < n by omega), if_pos (show n < n + 1 by omega)]
    · have e1 : N 20 n = M 20 n := by rw [e]; exact if_neg z
      rw [e1]
      by_cases z2 : h < n
      · rw [if_pos z2, if_pos (show h < n + 1 by omega)]
        split <;> omega
      · rw [if_neg z2, if_neg (show ¬ h < n + 1 by omega)]
        split <;> omega
theorem mtF_same {M N : mv_Mem} (e : N 20 = M 20) : ∀ n, mtF N n = mtF M n
  | 0 => rfl
  | n + 1 => by unfold mtF; rw [mtF_same e n, e]
/-- what the search rests on -/
def gS (M : mv_Mem) (A nP : Nat) : Prop := M 0 32 = nI A ∧ (∃ n, n ≤ 6 ∧ A = 4 ^ n) ∧ M 0 7 = nI nP ∧ nP ≤ 6 ∧ ∀ s, s < 2 * nP → ∃ k, k < A ∧ M 15 s = nI k
/-- the line -/
def gI (M : mv_Mem) (A : Nat) : Prop := ∃ l, M 0 36 = nI l ∧ mtF M A = l ∧ ∀ i, i < l → ∃ h, h < A ∧ M 21 i = nI h
theorem gS_A {M : mv_Mem} {A nP : Nat} (h : gS M A nP) : A ≤ 4096 := by
  obtain ⟨n, hn, rfl⟩ := h.2.1
  exact (four ⟨n, by omega⟩).2
theorem gS_of {M N : mv_Mem} {A nP : Nat} (h : gS M A nP) (e32 : N 0 32 = M 0 32) (e7 : N 0 7 = M 0 7) (e15 : N 15 = M 15) : gS N A nP := by
  unfold gS
  rw [e32, e7, e15]
  exact h
theorem coM_out {M : mv_Mem} {h c : Nat} {f b : Int32} (h0 : ¬ c = 0) (h1 : ¬ c = 19) (h2 : ¬ c = 20) (h3 : ¬ c = 21) : coM M h f b c = M c := by
  unfold coM
  split
  · rw [q_upO h0, q_upO h3, q_upO h1, q_upO h2]
  · rfl
theorem coM_0 {M : mv_Mem} {h j : Nat} {f b : Int32} (hj : ¬ j = 36) : coM M h f b 0 j = M 0 j := by
  unfold coM
  split
  · rw [q_upN (by omega), q_upO (by decide), q_upO (by decide), q_upO (by decide)]
  · rfl
theorem gS_co {M : mv_Mem} {A nP h : Nat} {f b : Int32} (g : gS M A nP) : gS (coM M h f b) A nP := gS_of g (coM_0 (by decide)) (coM_0 (by decide)) (coM_out (by decide) (by decide) (by decide) (by decide))
theorem gI_pre {M : mv_Mem} {A nP h : Nat} (g : gS M A nP) (i : gI M A) (hh : h < A) : ∃ l, l ≤ 4096 ∧ M 0 36 = nI l ∧ (M 20 h < nI 0 → l < 4096) := by
  obtain ⟨l, h1, h2, -⟩ := i
  have hA := gS_A g
  have := mtF_le M A
  refine ⟨l, by omega, h1, fun z => ?_⟩
  have := mtF_lt z A hh
  omega
theorem gI_co {M : mv_Mem} {A nP h : Nat} {f b : Int32} (g : gS M A nP) (i : gI M A) (hh : h < A) (hb : ¬ b < nI 0) : gI (coM M h f b) A := by
  obtain ⟨l, h1, h2, h3⟩ := id i
  have hA := gS_A g
  have hl := mtF_le M A
  unfold coM
  by_cases c : M 20 h < nI 0
  · rw [if_pos c, h1, q_cl (by omega)]
    refine ⟨l + 1, q_upS, ?_, fun j hj => ?_⟩
    · have e : (mv_up (mv_up (mv_up (mv_up M 20 h b) 19 h f) 21 l (nI h)) 0 36 (nI (l + 1))) 20 = fun j => if j = h then b else M 20 j := by
        rw [q_upO (by decide), q_upO (by decide), q_upO (by decide)]
        funext j
        by_cases z : j = h
        · subst z; rw [q_upS, if_pos rfl]
        · rw [q_upN (fun y => z y.2), if_neg z]
      rw [mtF_up e c hb A, if_pos hh, h2]
    · rw [q_upO (by decide)]
      by_cases z : j = l
      · subst z
        exact ⟨h, hh, q_upS⟩
      · rw [q_upN (fun y => z y.2), q_upO (by decide), q_upO (by decide)]
        exact h3 j (by omega)
  · rw [if_neg c]
    exact i
/-- gone on from h by the packs of the set y -/
def gfF (h : Nat) (y : Int32) : Nat → Nat → mv_Mem → mv_Mem
  | 0, _, M => M
  | n + 1, s, M => gfF h y n (s + 1) (if y >>> (nI (s / 2) &&& 31) &&& nI 1 = nI 1 then coM M (plN h (M 15 s).toNatClampNeg) (nI h) (nI s) else M)
theorem gfF_out {h c : Nat} {y : Int32} (h0 : ¬ c = 0) (h1 : ¬ c = 19) (h2 : ¬ c = 20) (h3 : ¬ c = 21) : ∀ n s M, gfF h y n s M c = M c
  | 0, _, _ => rfl
  | n + 1, s, M => by
    unfold gfF
    rw [gfF_out h0 h1 h2 h3 n]
    split
    · exact coM_out h0 h1 h2 h3
    · rfl
theorem gfF_0 {h j : Nat} {y : Int32} (hj : ¬ j = 36) : ∀ n s M, gfF h y n s M 0 j = M 0 j
  | 0, _, _ => rfl
  | n + 1, s, M => by
    unfold gfF
    rw [gfF_0 hj n]
    split
    · exact coM_0 hj
    · rfl
theorem nI_nn {k : Nat} (h : k < 2147483648) : ¬ nI k < nI 0 := by rw [q_ltf (Nat.zero_le k) h]; exact id
theorem gIS_gf {A nP h : Nat} {y : Int32} (hh : h < A) : ∀ n s M, s + n = 2 * nP → gS M A nP → gI M A → gS (gfF h y n s M) A nP ∧ gI (gfF h y n s M) A
  | 0, _, _, _, g, i => ⟨g, i⟩
  | n + 1, s, M, e, g, i => by
    unfold gfF
    by_cases c : y >>> (nI (s / 2) &&& 31) &&& nI 1 = nI 1
    · rw [if_pos c]
      obtain ⟨k, hk, hK⟩ := g.2.2.2.2 s (by omega)
      have g4 := g.2.2.2.1
      obtain ⟨q, hq, hA⟩ := g.2.1
      refine gIS_gf hh n (s + 1) _ (by omega) (gS_co g) (gI_co g i ?_ (nI_nn (by omega)))
      rw [hK, q_cl (by have := gS_A g; omega)]
      subst hA
      exact plN_lt hq hh hk
    · rw [if_neg c]
      exact gIS_gf hh n (s + 1) M (by omega) g i
theorem lp178 {S : Nat → mv_Sp} (h148 : S 148 = sp148) (h171 : S 171 = sp171) (h177 : S 177 = sp177) {sh : mv_Shp} {P : mv_Post} {A nP h : Nat} {y : Int32} (p1 : oM sh) (hh : h < A) :
    ∀ n s (M : mv_Mem), s + n = 2 * nP → gS M A nP → gI M A → P none sh (gfF h y n s M) → mr178 S P 2 [some (.ref 0), some (.int (nI h)), some (.int y), some (.int (nI s))] [] sh M 0 0
  | 0, s, M, e, g, i, hQ => by
    obtain rfl : s = 2 * nP := by omega
    have g7 := g.2.2.1
    have g6 := g.2.2.2.1
    rw [e178_2]
    simp (disch := first | assumption | omega) only [e178_0, e178_1, e178_3, e178_4, e178_5, e178_8, e178_9, e178_12, e178_13, e178_14, e178_15, e178_16, e178_19, e178_22, e178_23, e178_24, e178_25, e178_28, e178_29, e178_30, e178_33, e178_34, e178_35, e178_38, e178_41, e178_44, q_gv0, q_gvs, q_isI1, q_isA1, q_hs0, q_hsn, q_hsi, q_hsr, q_hss, q_inc1, List.set_cons_zero, List.set_cons_succ, ↓reduceIte, q_ss0, q_ssi, q_ssr, q_nr0, q_nr10, q_nr11, q_tlS, q_tlN, q_cl, q_let, q_lef, q_ltt, q_ltf, q_eqt, q_eqf, q_add, q_mul, Nat.reduceAdd, Nat.reduceLeDiff, Nat.reduceEqDiff, eq_self, Nat.zero_le, Nat.le_refl, not_false_eq_true, not_true_eq_false, true_and, and_true, and_self, if_true, if_false, p1.g7, g7]
    exact hQ
  | n + 1, s, M, e, g, i, hQ => by
    have g7 := g.2.2.1
    have g6 := g.2.2.2.1
    have hA := gS_A g
    obtain ⟨k, hk, hK⟩ := g.2.2.2.2 s (by omega)
    obtain ⟨q, hq, hq2⟩ := g.2.1
    have pl : plN h k < A := by subst hq2; exact plN_lt hq hh hk
    have pl4 : plN h k < 4096 := by omega
    have pre := gI_pre g i pl
    unfold gfF at hQ
    rw [hK, q_cl (by omega)] at hQ
    rw [e178_2]
    by_cases c : y >>> (nI (s / 2) &&& 31) &&& nI 1 = nI 1
    · rw [if_pos c] at hQ
      simp (disch := first | assumption | omega) only [e178_0, e178_1, e178_3, e178_4, e178_5, e178_8, e178_9, e178_12, e178_13, e178_14, e178_15, e178_16, e178_19, e178_22, e178_23, e178_24, e178_25, e178_28, e178_29, e178_30, e178_33, e178_34, e178_35, e178_38, e178_41, e178_44, q_gv0, q_gvs, q_isI1, q_isA1, q_hs0, q_hsn, q_hsi, q_hsr, q_hss, q_inc1, List.set_cons_zero, List.set_cons_succ, ↓reduceIte, q_ss0, q_ssi, q_ssr, q_nr0, q_nr10, q_nr11, q_tlS, q_tlN, q_cl, q_let, q_lef, q_ltt, q_ltf, q_eqt, q_eqf, q_add, q_mul, Nat.reduceAdd, Nat.reduceLeDiff, Nat.reduceEqDiff, eq_self, Nat.zero_le, Nat.le_refl, not_false_eq_true, not_true_eq_false, true_and, and_true, and_self, if_true, if_false, p1.o, p1.g7, p1.g28, p1.l15, g7, q_div, cl148 h148, c, hK, cr171 h171, cl177 h177]
      exact lp178 h148 h171 h177 p1 hh n (s + 1) _ (by omega) (gS_co g) (gI_co g i pl (nI_nn (by omega))) hQ
    · rw [if_neg c] at hQ
      simp (disch := first | assumption | omega) only [e178_0, e178_1, e178_3, e178_4, e178_5, e178_8, e178_9, e178_12, e178_13, e178_14, e178_15, e178_16, e178_19, e178_22, e178_23, e178_24, e178_25, e178_28, e178_29, e178_30, e178_33, e178_34, e178_35, e178_38, e178_41, e178_44, q_gv0, q_gvs, q_isI1, q_isA1, q_hs0, q_hsn, q_hsi, q_hsr, q_hss, q_inc1, List.set_cons_zero, List.set_cons_succ, ↓reduceIte, q_ss0, q_ssi, q_ssr, q_nr0, q_nr10, q_nr11, q_tlS, q_tlN, q_cl, q_let, q_lef, q_ltt, q_ltf, q_eqt, q_eqf, q_add, q_mul, Nat.reduceAdd, Nat.reduceLeDiff, Nat.reduceEqDiff, eq_self, Nat.zero_le, Nat.le_refl, not_false_eq_true, not_true_eq_false, true_and, and_true, and_self, if_true, if_false, p1.o, p1.g7, g7, q_div, cl148 h148, c]
      exact lp178 h148 h171 h177 p1 hh n (s + 1) M (by omega) g i hQ
def gfM (M : mv_Mem) (h : Nat) (y : Int32) : mv_Mem := gfF h y (2 * (M 0 7).toNatClampNeg) 0 M
def sp178 : mv_Sp := fun As sh M Q => ∃ (h : Nat) (y : Int32), As = [.ref 0, .int (nI h), .int y] ∧ ((oM sh) ∧ (h < 4096) ∧ (∃ A nP, gS M A nP ∧ gI M A ∧ h < A)) ∧ Q (none) (sh) (gfM M h y)
theorem cl178 {S : Nat → mv_Sp} (hS : S 178 = sp178) {sh : mv_Shp} {M : mv_Mem} {h : Nat} {y : Int32} (p1 : oM sh) (p2 : h < 4096) (p3 : ∃ A nP, gS M A nP ∧ gI M A ∧ h < A) {K : mv_Kt} {pc : Nat} {L : mv_Loc} {st : List Value} {cc_ ss_ : Nat} : mv_kal S 178 [.ref 0, .int (nI h), .int y] sh M K pc L st cc_ ss_ = K pc L ((none : Option Value).toList ++ st) (sh) (gfM M h y) cc_ ss_ := by
  refine q_kal (fun F => q_cali (fun Q => ?_))
  rw [hS]
  constructor
  · rintro ⟨h', y', hE, ⟨zp1, zp2, zp3⟩, hQ⟩
    simp only [List.cons.injEq, Value.ref.injEq, Value.int.injEq, Value.long.injEq, and_true, true_and] at hE
    obtain ⟨e_h, rfl⟩ := hE
    have z_h := nI_inj e_h (by omega) (by omega)
    subst z_h
    exact hQ
  · intro hQ
    exact ⟨h, y, rfl, ⟨p1, p2, p3⟩, hQ⟩
theorem ct178 {S : Nat → mv_Sp} (h148 : S 148 = sp148) (h171 : S 171 = sp171) (h177 : S 177 = sp177) : ∀ As sh M P, sp178 As sh M P → (mv_al0 As).length ≤ 4 ∧ mr178 S P 0 (mv_ent As 4) [] sh M 0 0 := by
  rintro As sh M P ⟨h, y, rfl, ⟨p1, p2, p3⟩, hQ⟩
  refine ⟨Nat.le_of_ble_eq_true rfl, ?_⟩
  show mr178 S P 0 [some (.ref 0), some (.int (nI h)), some (.int y), none] [] sh M 0 0
  obtain ⟨A, nP, g, i, hh⟩ := p3
  have g6 := g.2.2.2.1
  unfold gfM at hQ
  rw [g.2.2.1, q_cl (by omega)] at hQ
  simp (disch := first | assumption | omega) only [e178_0, e178_1, q_gv0, q_gvs, q_isI1, q_isA1, q_hs0, q_hsn, q_hsi, q_hsr, q_hss, q_inc1, List.set_cons_zero, List.set_cons_succ, ↓reduceIte, q_ss0, q_ssi, q_ssr, q_nr0, q_nr10, q_nr11, q_tlS, q_tlN, q_cl, q_let, q_lef, q_ltt, q_ltf, q_eqt, q_eqf, q_add, q_mul, Nat.reduceAdd, Nat.reduceLeDiff, Nat.reduceEqDiff, eq_self, Nat.zero_le, Nat.le_refl, not_false_eq_true, not_true_eq_false, true_and, and_true, and_self, if_true, if_false]
  exact lp178 h148 h171 h177 p1 hh (2 * nP) 0 M (by omega) g i hQ
def gtF (c y : Int32) : Nat → Nat → mv_Mem → Int32 × mv_Mem
  | 0, _, M => (Int32.ofInt (-4), M)
  | n + 1, k, M => if k < (M 0 36).toNatClampNeg then if M 16 (M 21 k).toNatClampNeg = c then (M 21 k, M) else gtF c y n (k + 1) (gfM M (M 21 k).toNatClampNeg y) else (Int32.ofInt (-4), M)
theorem lp179 {S : Nat → mv_Sp} (h178 : S 178 = sp178) {sh : mv_Shp} {P : mv_Post} {A nP : Nat} {x y : Int32} (p1 : oM sh) :
    ∀ n k (M : mv_Mem), 4096 < k + n → gS M A nP → gI M A → P (some (.int (gtF x y n k M).1)) sh (gtF x y n k M).2 → k < 2147483648 → mr179 S P 42 [some (.ref 0), some (.int x), some (.int y), some (.int (nI k))] [] sh M 0 0
  | 0, k, M, e, g, i, hQ, hk => by
    obtain ⟨l, h1, h2, h3⟩ := i
    have := mtF_le M A
    have hA := gS_A g
    rw [e179_42]
    simp (disch := first | assumption | omega) only [e179_43, e179_44, e179_47, e179_89, e179_91, q_gv0, q_gvs, q_isI1, q_isA1, q_hs0, q_hsn, q_hsi, q_hsr, q_hss, q_inc1, List.set_cons_zero, List.set_cons_succ, ↓reduceIte, q_ss0, q_ssi, q_ssr, q_nr0, q_nr10, q_nr11, q_tlS, q_tlN, q_cl, q_let, q_lef, q_ltt, q_ltf, q_eqt, q_eqf, q_add, q_mul, Nat.reduceAdd, Nat.reduceLeDiff, Nat.reduceEqDiff, eq_self, Nat.zero_le, Nat.le_refl, not_false_eq_true, not_true_eq_false, true_and, and_true, and_self, if_true, if_false, p1.g36, h1]
    exact hQ
  | n + 1, k, M, e, g, i, hQ, hk => by
    obtain ⟨l, h1, h2, h3⟩ := id i
    have hl := mtF_le M A
    have hA := gS_A g
    unfold gtF at hQ
    rw [h1, q_cl (show l < 2147483648 by omega)] at hQ
    rw [e179_42]
    by_cases c : k < l
    · obtain ⟨h, hh, hH⟩ := h3 k c
      rw [if_pos c, hH, q_cl (show h < 2147483648 by omega)] at hQ
      have hh4 : h < 4096 := by omega
      by_cases c2 : M 16 h = x
      · rw [if_pos c2] at hQ
        simp (disch := first | assumption | omega) only [e179_43, e179_44, e179_47, e179_50, e179_51, e179_54, e179_55, e179_58, e179_59, e179_60, e179_61, e179_62, e179_65, e179_66, e179_69, e179_70, e179_71, q_gv0, q_gvs, q_isI1, q_isA1, q_hs0, q_hsn, q_hsi, q_hsr, q_hss, q_inc1, List.set_cons_zero, List.set_cons_succ, ↓reduceIte, q_ss0, q_ssi, q_ssr, q_nr0, q_nr10, q_nr11, q_tlS, q_tlN, q_cl, q_let, q_lef, q_ltt, q_ltf, q_eqt, q_eqf, q_add, q_mul, Nat.reduceAdd, Nat.reduceLeDiff, Nat.reduceEqDiff, eq_self, Nat.zero_le, Nat.le_refl, not_false_eq_true, not_true_eq_false, true_and, and_true, and_self, if_true, if_false, p1.g29, p1.g35, p1.g36, p1.l16, p1.l21, h1, hH, c2]
        exact hQ
      · rw [if_neg c2] at hQ
        have gg : ∃ A nP, gS M A nP ∧ gI M A ∧ h < A := ⟨A, nP, g, i, hh⟩
        simp (disch := first | assumption | omega) only [e179_43, e179_44, e179_47, e179_50, e179_51, e179_54, e179_55, e179_58, e179_59, e179_60, e179_61, e179_62, e179_72, e179_73, e179_74, e179_77, e179_78, e179_79, e179_80, e179_83, e179_86, q_gv0, q_gvs, q_isI1, q_isA1, q_hs0, q_hsn, q_hsi, q_hsr, q_hss, q_inc1, List.set_cons_zero, List.set_cons_succ, ↓reduceIte, q_ss0, q_ssi, q_ssr, q_nr0, q_nr10, q_nr11, q_tlS, q_tlN, q_cl, q_let, q_lef, q_ltt, q_ltf, q_eqt, q_eqf, q_add, q_mul, Nat.reduceAdd, Nat.reduceLeDiff, Nat.reduceEqDiff, eq_self, Nat.zero_le, Nat.le_refl, not_false_eq_true, not_true_eq_false, true_and, and_true, and_self, if_true, if_false, p1.o, p1.g29, p1.g35, p1.g36, p1.l16, p1.l21, h1, hH, c2, cl178 h178]
        have g7 : (M 0 7).toNatClampNeg = nP := by rw [g.2.2.1, q_cl (by have := g.2.2.2.1; omega)]
        have nx := gIS_gf (y := y) hh (2 * nP) 0 M (by omega) g i
        have e2 : gfM M h y = gfF h y (2 * nP) 0 M := by unfold gfM; rw [g7]
        rw [← e2] at nx
        exact lp179 h178 p1 n (k + 1) _ (by omega) nx.1 nx.2 hQ (by omega)
    · rw [if_neg c] at hQ
      simp (disch := first | assumption | omega) only [e179_43, e179_44, e179_47, e179_89, e179_91, q_gv0, q_gvs, q_isI1, q_isA1, q_hs0, q_hsn, q_hsi, q_hsr, q_hss, q_inc1, List.set_cons_zero, List.set_cons_succ, ↓reduceIte, q_ss0, q_ssi, q_ssr, q_nr0, q_nr10, q_nr11, q_tlS, q_tlN, q_cl, q_let, q_lef, q_ltt, q_ltf, q_eqt, q_eqf, q_add, q_mul, Nat.reduceAdd, Nat.reduceLeDiff, Nat.reduceEqDiff, eq_self, Nat.zero_le, Nat.le_refl, not_false_eq_true, not_true_eq_false, true_and, and_true, and_self, if_true, if_false, p1.g36, h1]
      exact hQ
theorem lp179a {S : Nat → mv_Sp} {sh : mv_Shp} {M : mv_Mem} {P : mv_Post} {A : Nat} {x y : Int32} (p1 : oM sh) (h32 : M 0 32 = nI A) (hA : A ≤ 4096) (hQ : ∀ z, mr179 S P 23 [some (.ref 0), some (.int x), some (.int y), z] [] sh (fiM M 20 (Int32.ofInt (-1)) A) 0 0) :
    ∀ n k, k + n = A → mr179 S P 2 [some (.ref 0), some (.int x), some (.int y), some (.int (nI k))] [] sh (fiM M 20 (Int32.ofInt (-1)) k) 0 0
  | 0, k, h => by
    obtain rfl : k = A := by omega
    have e : fiM M 20 (Int32.ofInt (-1)) k 0 32 = nI k := by rw [fiM_out (by decide)]; exact h32
    rw [e179_2]
    simp (disch := first | assumption | omega) only [e179_3, e179_4, e179_7, q_gv0, q_gvs, q_isI1, q_isA1, q_hs0, q_hsn, q_hsi, q_hsr, q_hss, q_inc1, List.set_cons_zero, List.set_cons_succ, ↓reduceIte, q_ss0, q_ssi, q_ssr, q_nr0, q_nr10, q_nr11, q_tlS, q_tlN, q_cl, q_let, q_lef, q_ltt, q_ltf, q_eqt, q_eqf, q_add, q_mul, Nat.reduceAdd, Nat.reduceLeDiff, Nat.reduceEqDiff, eq_self, Nat.zero_le, Nat.le_refl, not_false_eq_true, not_true_eq_false, true_and, and_true, and_self, if_true, if_false, p1.g32, e]
    exact hQ _
  | n + 1, k, h => by
    have ih := lp179a (S := S) p1 h32 hA hQ n (k + 1) (by omega)
    have e : fiM M 20 (Int32.ofInt (-1)) k 0 32 = nI A := by rw [fiM_out (by decide)]; exact h32
    unfold fiM at ih
    rw [e179_2]
    simp (disch := first | assumption | omega) only [e179_3, e179_4, e179_7, e179_10, e179_11, e179_14, e179_15, e179_16, e179_17, e179_20, q_gv0, q_gvs, q_isI1, q_isA1, q_hs0, q_hsn, q_hsi, q_hsr, q_hss, q_inc1, List.set_cons_zero, List.set_cons_succ, ↓reduceIte, q_ss0, q_ssi, q_ssr, q_nr0, q_nr10, q_nr11, q_tlS, q_tlN, q_cl, q_let, q_lef, q_ltt, q_ltf, q_eqt, q_eqf, q_add, q_mul, Nat.reduceAdd, Nat.reduceLeDiff, Nat.reduceEqDiff, eq_self, Nat.zero_le, Nat.le_refl, not_false_eq_true, not_true_eq_false, true_and, and_true, and_self, if_true, if_false, p1.g32, p1.g34, p1.s20, e]
    exact ih
def gt0 (M : mv_Mem) : mv_Mem := coM (mv_up (fiM M 20 (Int32.ofInt (-1)) (M 0 32).toNatClampNeg) 0 36 (nI 0)) (hnY M).toNatClampNeg (Int32.ofInt (-4)) (nI 99)
def gtM (M : mv_Mem) (x y : Int32) : Int32 × mv_Mem := gtF x y 4097 0 (gt0 M)
theorem mtF_0 {M : mv_Mem} : ∀ n, (∀ i, i < n → M 20 i < nI 0) → mtF M n = 0
  | 0, _ => rfl
  | n + 1, h => by
    unfold mtF
    rw [mtF_0 n (fun i hi => h i (by omega)), if_pos (h n (by omega))]
theorem gI_gt0 {M : mv_Mem} {A nP k : Nat} (g : gS M A nP) (hk : k < A) (hK : hnY M = nI k) : gS (gt0 M) A nP ∧ gI (gt0 M) A := by
  have hA := gS_A g
  have e32 : (M 0 32).toNatClampNeg = A := by rw [g.1, q_cl (by omega)]
  unfold gt0
  rw [e32, hK, q_cl (by omega)]
  have g1 : gS (mv_up (fiM M 20 (Int32.ofInt (-1)) A) 0 36 (nI 0)) A nP := gS_of g (by rw [q_upN (by decide), fiM_out (by decide)]) (by rw [q_upN (by decide), fiM_out (by decide)]) (by rw [q_upO (by decide), fiM_out (by decide)])
  have i1 : gI (mv_up (fiM M 20 (Int32.ofInt (-1)) A) 0 36 (nI 0)) A := ⟨0, q_upS, mtF_0 A (fun i hi => by rw [q_upO (by decide), fiM_in _ _ hi]; decide), fun i hi => absurd hi (by omega)⟩
  exact ⟨gS_co g1, gI_co g1 i1 hk (nI_nn (by decide))⟩
def sp179 : mv_Sp := fun As sh M Q => ∃ (x : Int32) (y : Int32), As = [.ref 0, .int x, .int y] ∧ ((oM sh) ∧ (∃ n, n ≤ 6 ∧ M 0 3 = nI n) ∧ (∃ A nP k, gS M A nP ∧ k < A ∧ hnY M = nI k)) ∧ Q (some (.int (gtM M x y).1)) (sh) ((gtM M x y).2)
theorem cl179 {S : Nat → mv_Sp} (hS : S 179 = sp179) {sh : mv_Shp} {M : mv_Mem} {x : Int32} {y : Int32} (p1 : oM sh) (p2 : ∃ n, n ≤ 6 ∧ M 0 3 = nI n) (p3 : ∃ A nP k, gS M A nP ∧ k < A ∧ hnY M = nI k) {K : mv_Kt} {pc : Nat} {L : mv_Loc} {st : List Value} {cc_ ss_ : Nat} : mv_kal S 179 [.ref 0, .int x, .int y] sh M K pc L st cc_ ss_ = K pc L ((some (.int (gtM M x y).1) : Option Value).toList ++ st) (sh) ((gtM M x y).2) cc_ ss_ := by
  refine q_kal (fun F => q_cali (fun Q => ?_))
  rw [hS]
  constructor
  · rintro ⟨x', y', hE, ⟨zp1, zp2, zp3⟩, hQ⟩
    simp only [List.cons.injEq, Value.ref.injEq, Value.int.injEq, Value.long.injEq, and_true, true_and] at hE
    obtain ⟨rfl, rfl⟩ := hE
    exact hQ
  · intro hQ
    exact ⟨x, y, rfl, ⟨p1, p2, p3⟩, hQ⟩
theorem ct179 {S : Nat → mv_Sp} (h170 : S 170 = sp170) (h177 : S 177 = sp177) (h178 : S 178 = sp178) : ∀ As sh M P, sp179 As sh M P → (mv_al0 As).length ≤ 4 ∧ mr179 S P 0 (mv_ent As 4) [] sh M 0 0 := by
  rintro As sh M P ⟨x, y, rfl, ⟨p1, p2, p3⟩, hQ⟩
  refine ⟨Nat.le_of_ble_eq_true rfl, ?_⟩
  show mr179 S P 0 [some (.ref 0), some (.int x), some (.int y), none] [] sh M 0 0
  obtain ⟨A, nP, k, g, hk, hK⟩ := p3
  have hA := gS_A g
  have gi := gI_gt0 g hk hK
  have e32 : (M 0 32).toNatClampNeg = A := by rw [g.1, q_cl (by omega)]
  unfold gtM at hQ
  have eg : coM (mv_up (fiM M 20 (Int32.ofInt (-1)) A) 0 36 (nI 0)) k (Int32.ofInt (-4)) (nI 99) = gt0 M := by unfold gt0; rw [e32, hK, q_cl (by omega)]
  simp (disch := first | assumption | omega) only [e179_0, e179_1, q_gv0, q_gvs, q_isI1, q_isA1, q_hs0, q_hsn, q_hsi, q_hsr, q_hss, q_inc1, List.set_cons_zero, List.set_cons_succ, ↓reduceIte, q_ss0, q_ssi, q_ssr, q_nr0, q_nr10, q_nr11, q_tlS, q_tlN, q_cl, q_let, q_lef, q_ltt, q_ltf, q_eqt, q_eqf, q_add, q_mul, Nat.reduceAdd, Nat.reduceLeDiff, Nat.reduceEqDiff, eq_self, Nat.zero_le, Nat.le_refl, not_false_eq_true, not_true_eq_false, true_and, and_true, and_self, if_true, if_false]
  refine lp179a (M := M) p1 g.1 hA (fun z => ?_) A 0 (by omega)
  have hn : ∃ n, n ≤ 6 ∧ mv_up (fiM M 20 (Int32.ofInt (-1)) A) 0 36 (nI 0) 0 3 = nI n := by rw [q_upN (by decide), fiM_out (by decide)]; exact p2
  have hy : hnY (mv_up (fiM M 20 (Int32.ofInt (-1)) A) 0 36 (nI 0)) = nI k := by
    unfold hnY
    rw [q_upN (by decide), fiM_out (by decide), q_upO (by decide), fiM_out (by decide)]
    exact hK
  have k4 : k < 4096 := by omega
  have pre : ∃ l, l ≤ 4096 ∧ mv_up (fiM M 20 (Int32.ofInt (-1)) A) 0 36 (nI 0) 0 36 = nI l ∧ (mv_up (fiM M 20 (Int32.ofInt (-1)) A) 0 36 (nI 0) 20 k < nI 0 → l < 4096) := ⟨0, by decide, q_upS, fun _ => by decide⟩
  simp (disch := first | assumption | omega) only [e179_23, e179_24, e179_25, e179_28, e179_29, e179_30, e179_33, e179_35, e179_37, e179_40, e179_41, q_gv0, q_gvs, q_isI1, q_isA1, q_hs0, q_hsn, q_hsi, q_hsr, q_hss, q_inc1, List.set_cons_zero, List.set_cons_succ, ↓reduceIte, q_ss0, q_ssi, q_ssr, q_nr0, q_nr10, q_nr11, q_tlS, q_tlN, q_cl, q_let, q_lef, q_ltt, q_ltf, q_eqt, q_eqf, q_add, q_mul, Nat.reduceAdd, Nat.reduceLeDiff, Nat.reduceEqDiff, eq_self, Nat.zero_le, Nat.le_refl, not_false_eq_true, not_true_eq_false, true_and, and_true, and_self, if_true, if_false, p1.o, p1.p36, cl170 h170, hy, cl177 h177, eg]
  exact lp179 h178 p1 4097 0 _ (by decide) gi.1 gi.2 hQ (by decide)
