/-! the model: holes laid, searched -/
def flG (M : mv_Mem) (t : Nat) : Nat → Int32 := fun h => M 3 (4 * t + h)
theorem lp168 {S : Nat → mv_Sp} {sh : mv_Shp} {M : mv_Mem} {P : mv_Post} {t h : Nat} (p1 : oM sh) (ht : t < 6) (hh : h < 4) :
    ∀ n k, k + n = h → P (some (.int (nI (faF (flG M t) h n)))) sh M → mr168 S P 2 [some (.ref 0), some (.int (nI t)), some (.int (nI h)), some (.int (nI k))] [] sh M 0 0
  | 0, k, hk, hQ => by
    obtain rfl : k = h := by omega
    rw [e168_2]
    simp (disch := first | assumption | omega) only [e168_0, e168_1, e168_3, e168_6, e168_7, e168_8, e168_9, e168_10, e168_11, e168_12, e168_13, e168_16, e168_17, e168_18, e168_19, e168_20, e168_21, e168_22, e168_25, e168_28, e168_31, e168_32, q_gv0, q_gvs, q_isI1, q_isA1, q_hs0, q_hsn, q_hsi, q_hsr, q_hss, q_inc1, List.set_cons_zero, List.set_cons_succ, ↓reduceIte, q_ss0, q_ssi, q_ssr, q_nr0, q_nr10, q_nr11, q_tlS, q_tlN, q_cl, q_let, q_lef, q_ltt, q_ltf, q_eqt, q_eqf, q_add, q_mul, Nat.reduceAdd, Nat.reduceLeDiff, Nat.reduceEqDiff, eq_self, Nat.zero_le, Nat.le_refl, not_false_eq_true, not_true_eq_false, true_and, and_true, and_self, if_true, if_false, p1.g5, p1.l3]
    exact hQ
  | n + 1, k, hk, hQ => by
    have ek : h - (n + 1) = k := by omega
    unfold faF at hQ
    rw [ek] at hQ
    unfold flG at hQ
    rw [e168_2]
    by_cases c : M 3 (4 * t + k) = M 3 (4 * t + h)
    · rw [if_pos c] at hQ
      simp (disch := first | assumption | omega) only [e168_0, e168_1, e168_3, e168_6, e168_7, e168_8, e168_9, e168_10, e168_11, e168_12, e168_13, e168_16, e168_17, e168_18, e168_19, e168_20, e168_21, e168_22, e168_25, e168_28, e168_31, e168_32, q_gv0, q_gvs, q_isI1, q_isA1, q_hs0, q_hsn, q_hsi, q_hsr, q_hss, q_inc1, List.set_cons_zero, List.set_cons_succ, ↓reduceIte, q_ss0, q_ssi, q_ssr, q_nr0, q_nr10, q_nr11, q_tlS, q_tlN, q_cl, q_let, q_lef, q_ltt, q_ltf, q_eqt, q_eqf, q_add, q_mul, Nat.reduceAdd, Nat.reduceLeDiff, Nat.reduceEqDiff, eq_self, Nat.zero_le, Nat.le_refl, not_false_eq_true, not_true_eq_false, true_and, and_true, and_self, if_true, if_false, p1.g5, p1.l3, c]
      exact hQ
    · rw [if_neg c] at hQ
      simp (disch := first | assumption | omega) only [e168_0, e168_1, e168_3, e168_6, e168_7, e168_8, e168_9, e168_10, e168_11, e168_12, e168_13, e168_16, e168_17, e168_18, e168_19, e168_20, e168_21, e168_22, e168_25, e168_28, e168_31, e168_32, q_gv0, q_gvs, q_isI1, q_isA1, q_hs0, q_hsn, q_hsi, q_hsr, q_hss, q_inc1, List.set_cons_zero, List.set_cons_succ, ↓reduceIte, q_ss0, q_ssi, q_ssr, q_nr0, q_nr10, q_nr11, q_tlS, q_tlN, q_cl, q_let, q_lef, q_ltt, q_ltf, q_eqt, q_eqf, q_add, q_mul, Nat.reduceAdd, Nat.reduceLeDiff, Nat.reduceEqDiff, eq_self, Nat.zero_le, Nat.le_refl, not_false_eq_true, not_true_eq_false, true_and, and_true, and_self, if_true, if_false, p1.g5, p1.l3, c]
      exact lp168 p1 ht hh n (k + 1) (by omega) hQ
def sp168 : mv_Sp := fun As sh M Q => ∃ (t : Nat) (h : Nat), As = [.ref 0, .int (nI t), .int (nI h)] ∧ ((oM sh) ∧ (t < 6) ∧ (h < 4)) ∧ Q (some (.int (nI (faF (flG M t) h h)))) (sh) (M)
theorem cl168 {S : Nat → mv_Sp} (hS : S 168 = sp168) {sh : mv_Shp} {M : mv_Mem} {t : Nat} {h : Nat} (p1 : oM sh) (p2 : t < 6) (p3 : h < 4) {K : mv_Kt} {pc : Nat} {L : mv_Loc} {st : List Value} {cc_ ss_ : Nat} : mv_kal S 168 [.ref 0, .int (nI t), .int (nI h)] sh M K pc L st cc_ ss_ = K pc L ((some (.int (nI (faF (flG M t) h h))) : Option Value).toList ++ st) (sh) (M) cc_ ss_ := by
  refine q_kal (fun F => q_cali (fun Q => ?_))
  rw [hS]
  constructor
  · rintro ⟨t', h', hE, ⟨zp1, zp2, zp3⟩, hQ⟩
    simp only [List.cons.injEq, Value.ref.injEq, Value.int.injEq, Value.long.injEq, and_true, true_and] at hE
    obtain ⟨e_t, e_h⟩ := hE
    have z_t := nI_inj e_t (by omega) (by omega)
    subst z_t
    have z_h := nI_inj e_h (by omega) (by omega)
    subst z_h
    exact hQ
  · intro hQ
    exact ⟨t, h, rfl, ⟨p1, p2, p3⟩, hQ⟩
theorem ct168 {S : Nat → mv_Sp}  : ∀ As sh M P, sp168 As sh M P → (mv_al0 As).length ≤ 4 ∧ mr168 S P 0 (mv_ent As 4) [] sh M 0 0 := by
  rintro As sh M P ⟨t, h, rfl, ⟨p1, p2, p3⟩, hQ⟩
  refine ⟨Nat.le_of_ble_eq_true rfl, ?_⟩
  show mr168 S P 0 [some (.ref 0), some (.int (nI t)), some (.int (nI h)), none] [] sh M 0 0
  simp (disch := first | assumption | omega) only [e168_0, e168_1, q_gv0, q_gvs, q_isI1, q_isA1, q_hs0, q_hsn, q_hsi, q_hsr, q_hss, q_inc1, List.set_cons_zero, List.set_cons_succ, ↓reduceIte, q_ss0, q_ssi, q_ssr, q_nr0, q_nr10, q_nr11, q_tlS, q_tlN, q_cl, q_let, q_lef, q_ltt, q_ltf, q_eqt, q_eqf, q_add, q_mul, Nat.reduceAdd, Nat.reduceLeDiff, Nat.reduceEqDiff, eq_self, Nat.zero_le, Nat.le_refl, not_false_eq_true, not_true_eq_false, true_and, and_true, and_self, if_true, if_false]
  exact lp168 p1 p2 p3 h 0 (by omega) hQ
def stY (M : mv_Mem) (p w : Nat) : Nat → Int32
  | 0 => nI 0
  | t + 1 => if M 5 p >>> (nI t &&& 31) &&& nI 1 = nI 1 then stY M p w t ||| ((qf (M 2 t).toNatClampNeg w &&& nI 3) <<< (nI (2 * t) &&& 31)) else stY M p w t
def adF (M : mv_Mem) (nT : Nat) : Nat → mv_Mem
  | 0 => M
  | n + 1 => mv_up (adF M nT n) 15 n (stY M (n / 2) (n % 2) nT)
theorem adF_out {M : mv_Mem} {nT c : Nat} (h : ¬ c = 15) : ∀ n, adF M nT n c = M c
  | 0 => rfl
  | n + 1 => by unfold adF; rw [q_upO h]; exact adF_out h n
theorem adF_in {M : mv_Mem} {nT j : Nat} : ∀ n, j < n → adF M nT n 15 j = stY M (j / 2) (j % 2) nT
  | 0, h => absurd h (by omega)
  | n + 1, h => by
    unfold adF
    by_cases z : j = n
    · subst z; exact q_upS
    · rw [q_upN (fun y => z y.2)]; exact adF_in n (by omega)
/-- what is shown by the holes x -/
def shY (M : mv_Mem) (x : Nat) : Nat → Int32 := clF (fun t => M 3 (4 * t + (hlF (nI x) t).toNatClampNeg))
def akY (M : mv_Mem) (x : Nat) : Nat → Int32
  | 0 => nI 0
  | t + 1 => akY M x t ||| (nI (faF (flG M t) (hlF (nI x) t).toNatClampNeg (hlF (nI x) t).toNatClampNeg) <<< (nI (2 * t) &&& 31))
def loF (M : mv_Mem) (nT : Nat) : Nat → mv_Mem
  | 0 => M
  | n + 1 => mv_up (mv_up (loF M nT n) 16 n (shY M n nT)) 17 n (akY M n nT)
theorem loF_out {M : mv_Mem} {nT c : Nat} (h : ¬ c = 16) (h2 : ¬ c = 17) : ∀ n, loF M nT n c = M c
  | 0 => rfl
  | n + 1 => by unfold loF; rw [q_upO h2, q_upO h]; exact loF_out h h2 n
theorem loF_16 {M : mv_Mem} {nT j : Nat} : ∀ n, j < n → loF M nT n 16 j = shY M j nT
  | 0, h => absurd h (by omega)
  | n + 1, h => by
    unfold loF
    rw [q_upO (by decide)]
    by_cases z : j = n
    · subst z; exact q_upS
    · rw [q_upN (fun y => z y.2)]; exact loF_16 n (by omega)
theorem loF_17 {M : mv_Mem} {nT j : Nat} : ∀ n, j < n → loF M nT n 17 j = akY M j nT
  | 0, h => absurd h (by omega)
  | n + 1, h => by
    unfold loF
    by_cases z : j = n
    · subst z; exact q_upS
    · rw [q_upN (fun y => z y.2), q_upO (by decide)]; exact loF_17 n (by omega)
theorem i0o (x : Int32) : x ||| nI 0 = x := Int32.or_zero
theorem lp169t {S : Nat → mv_Sp} (h148 : S 148 = sp148) (h158 : S 158 = sp158) {sh : mv_Shp} {M : mv_Mem} {P : mv_Post} {s nT nP : Nat} (p1 : oM sh) (hT : M 0 3 = nI nT) (hT6 : nT ≤ 6) (hP : M 0 7 = nI nP) (hP6 : nP ≤ 6) (hs : s < 2 * nP) (hk : ∀ t, t < nT → ∃ k, k < 4 ∧ M 2 t = nI k) {y z : Option Value}
    (hQ : ∀ x, mr169 S P 89 [some (.ref 0), some (.int (nI s)), x, y, z] [] sh (mv_up (adF M nT s) 15 s (stY M (s / 2) (s % 2) nT)) 0 0) :
    ∀ n t, t + n = nT → mr169 S P 33 [some (.ref 0), some (.int (nI s)), some (.int (nI t)), y, z] [] sh (mv_up (adF M nT s) 15 s (stY M (s / 2) (s % 2) t)) 0 0
  | 0, t, h => by
    obtain rfl : t = nT := by omega
    have e0 : mv_up (adF M t s) 15 s (stY M (s / 2) (s % 2) t) 0 3 = nI t := by rw [q_upO (by decide), adF_out (by decide)]; exact hT
    rw [e169_33]
    simp (disch := first | assumption | omega) only [e169_34, e169_35, e169_38, q_gv0, q_gvs, q_isI1, q_isA1, q_hs0, q_hsn, q_hsi, q_hsr, q_hss, q_inc1, List.set_cons_zero, List.set_cons_succ, ↓reduceIte, q_ss0, q_ssi, q_ssr, q_nr0, q_nr10, q_nr11, q_tlS, q_tlN, q_cl, q_let, q_lef, q_ltt, q_ltf, q_eqt, q_eqf, q_add, q_mul, Nat.reduceAdd, Nat.reduceLeDiff, Nat.reduceEqDiff, eq_self, Nat.zero_le, Nat.le_refl, not_false_eq_true, not_true_eq_false, true_and, and_true, and_self, if_true, if_false, p1.g3, e0]
    exact hQ _
  | n + 1, t, h => by
    have ih := lp169t h148 h158 p1 hT hT6 hP hP6 hs hk (y := y) (z := z) hQ n (t + 1) (by omega)
    have e0 : ∀ {x}, mv_up (adF M nT s) 15 s x 0 3 = nI nT := by intro x; rw [q_upO (by decide), adF_out (by decide)]; exact hT
    have e5 : ∀ {x}, mv_up (adF M nT s) 15 s x 5 = M 5 := by intro x; rw [q_upO (by decide), adF_out (by decide)]
    have e2 : ∀ {x}, mv_up (adF M nT s) 15 s x 2 = M 2 := by intro x; rw [q_upO (by decide), adF_out (by decide)]
    have k4 : ∀ {x}, ∃ k, k < 4 ∧ mv_up (adF M nT s) 15 s x 2 t = nI k := by intro x; rw [e2]; exact hk t (by omega)
    have k4' := @k4 (stY M (s / 2) (s % 2) t)
    have t6 : t < 6 := by omega
    have s12 : s < 12 := by omega
    have m2 : s % 2 < 2 := Nat.mod_lt _ (by decide)
    have t32 : t < 32 := by omega
    have s2 : s / 2 < 6 := by omega
    unfold stY at ih
    rw [e169_33]
    by_cases c : M 5 (s / 2) >>> (nI t &&& 31) &&& nI 1 = nI 1
    · rw [if_pos c] at ih
      simp (disch := first | assumption | omega) only [e169_34, e169_35, e169_38, e169_41, e169_42, e169_45, e169_46, e169_47, e169_48, e169_49, e169_52, e169_53, e169_54, e169_55, e169_56, e169_57, e169_60, e169_63, e169_64, e169_65, e169_66, e169_67, e169_68, e169_71, e169_72, e169_73, e169_74, e169_75, e169_76, e169_77, e169_81, e169_82, e169_83, e169_86, e169_46r, e169_46q, e169_46rq, q_gv0, q_gvs, q_isI1, q_isA1, q_hs0, q_hsn, q_hsi, q_hsr, q_hss, q_inc1, List.set_cons_zero, List.set_cons_succ, ↓reduceIte, q_ss0, q_ssi, q_ssr, q_nr0, q_nr10, q_nr11, q_tlS, q_tlN, q_cl, q_let, q_lef, q_ltt, q_ltf, q_eqt, q_eqf, q_add, q_mul, Nat.reduceAdd, Nat.reduceLeDiff, Nat.reduceEqDiff, eq_self, Nat.zero_le, Nat.le_refl, not_false_eq_true, not_true_eq_false, true_and, and_true, and_self, if_true, if_false, p1.o, p1.g3, p1.g8, p1.g28, p1.l5, p1.l15, p1.s15, e0, e5, e2, q_div, q_rem, q_upS, cl148 h148, cl158 h158, c, q_upup]
      exact ih
    · rw [if_neg c] at ih
      simp (disch := first | assumption | omega) only [e169_34, e169_35, e169_38, e169_41, e169_42, e169_45, e169_46, e169_47, e169_48, e169_49, e169_52, e169_53, e169_54, e169_55, e169_56, e169_57, e169_60, e169_80, e169_81, e169_82, e169_83, e169_86, e169_46r, e169_46q, e169_46rq, q_gv0, q_gvs, q_isI1, q_isA1, q_hs0, q_hsn, q_hsi, q_hsr, q_hss, q_inc1, List.set_cons_zero, List.set_cons_succ, ↓reduceIte, q_ss0, q_ssi, q_ssr, q_nr0, q_nr10, q_nr11, q_tlS, q_tlN, q_cl, q_let, q_lef, q_ltt, q_ltf, q_eqt, q_eqf, q_add, q_mul, Nat.reduceAdd, Nat.reduceLeDiff, Nat.reduceEqDiff, eq_self, Nat.zero_le, Nat.le_refl, not_false_eq_true, not_true_eq_false, true_and, and_true, and_self, if_true, if_false, p1.o, p1.g3, p1.g8, p1.g28, p1.l5, p1.l15, p1.s15, e0, e5, e2, q_div, q_rem, q_upS, cl148 h148, c, q_upup, i0o]
      exact ih
theorem lp169a {S : Nat → mv_Sp} (h148 : S 148 = sp148) (h158 : S 158 = sp158) {sh : mv_Shp} {M : mv_Mem} {P : mv_Post} {nT nP : Nat} (p1 : oM sh) (hT : M 0 3 = nI nT) (hT6 : nT ≤ 6) (hP : M 0 7 = nI nP) (hP6 : nP ≤ 6) (hk : ∀ t, t < nT → ∃ k, k < 4 ∧ M 2 t = nI k) {y z : Option Value}
    (hQ : ∀ x1 x2, mr169 S P 95 [some (.ref 0), x1, x2, y, z] [] sh (adF M nT (2 * nP)) 0 0) :
    ∀ n s x, s + n = 2 * nP → mr169 S P 14 [some (.ref 0), some (.int (nI s)), x, y, z] [] sh (adF M nT s) 0 0
  | 0, s, x, h => by
    obtain rfl : s = 2 * nP := by omega
    have e7 : adF M nT (2 * nP) 0 7 = nI nP := by rw [adF_out (by decide)]; exact hP
    rw [e169_14]
    simp (disch := first | assumption | omega) only [e169_15, e169_16, e169_17, e169_20, e169_21, q_gv0, q_gvs, q_isI1, q_isA1, q_hs0, q_hsn, q_hsi, q_hsr, q_hss, q_inc1, List.set_cons_zero, List.set_cons_succ, ↓reduceIte, q_ss0, q_ssi, q_ssr, q_nr0, q_nr10, q_nr11, q_tlS, q_tlN, q_cl, q_let, q_lef, q_ltt, q_ltf, q_eqt, q_eqf, q_add, q_mul, Nat.reduceAdd, Nat.reduceLeDiff, Nat.reduceEqDiff, eq_self, Nat.zero_le, Nat.le_refl, not_false_eq_true, not_true_eq_false, true_and, and_true, and_self, if_true, if_false, p1.g7, e7]
    exact hQ _ _
  | n + 1, s, x, h => by
    have ih := lp169a h148 h158 p1 hT hT6 hP hP6 hk (y := y) (z := z) hQ n (s + 1)
    have e7 : adF M nT s 0 7 = nI nP := by rw [adF_out (by decide)]; exact hP
    rw [e169_14]
    simp (disch := first | assumption | omega) only [e169_15, e169_16, e169_17, e169_20, e169_21, e169_24, e169_25, e169_28, e169_29, e169_30, e169_31, e169_32, q_gv0, q_gvs, q_isI1, q_isA1, q_hs0, q_hsn, q_hsi, q_hsr, q_hss, q_inc1, List.set_cons_zero, List.set_cons_succ, ↓reduceIte, q_ss0, q_ssi, q_ssr, q_nr0, q_nr10, q_nr11, q_tlS, q_tlN, q_cl, q_let, q_lef, q_ltt, q_ltf, q_eqt, q_eqf, q_add, q_mul, Nat.reduceAdd, Nat.reduceLeDiff, Nat.reduceEqDiff, eq_self, Nat.zero_le, Nat.le_refl, not_false_eq_true, not_true_eq_false, true_and, and_true, and_self, if_true, if_false, p1.g7, p1.g28, p1.s15, e7]
    refine lp169t h148 h158 p1 hT hT6 hP hP6 (show s < 2 * nP by omega) hk (fun x => ?_) nT 0 (by omega)
    simp (disch := first | assumption | omega) only [e169_89, e169_92, q_gv0, q_gvs, q_isI1, q_isA1, q_hs0, q_hsn, q_hsi, q_hsr, q_hss, q_inc1, List.set_cons_zero, List.set_cons_succ, ↓reduceIte, q_ss0, q_ssi, q_ssr, q_nr0, q_nr10, q_nr11, q_tlS, q_tlN, q_cl, q_let, q_lef, q_ltt, q_ltf, q_eqt, q_eqf, q_add, q_mul, Nat.reduceAdd, Nat.reduceLeDiff, Nat.reduceEqDiff, eq_self, Nat.zero_le, Nat.le_refl, not_false_eq_true, not_true_eq_false, true_and, and_true, and_self, if_true, if_false]
    exact ih _ (by omega)
theorem lp169u {S : Nat → mv_Sp} (h168 : S 168 = sp168) {sh : mv_Shp} {M : mv_Mem} {P : mv_Post} {x nT : Nat} (p1 : oM sh) (hT : M 0 3 = nI nT) (hT6 : nT ≤ 6) (hx : x < 4096)
    (hQ : ∀ z, mr169 S P 173 [some (.ref 0), some (.int (nI x)), some (.int (shY M x nT)), some (.int (akY M x nT)), z] [] sh (loF M nT x) 0 0) :
    ∀ n t, t + n = nT → mr169 S P 112 [some (.ref 0), some (.int (nI x)), some (.int (shY M x t)), some (.int (akY M x t)), some (.int (nI t))] [] sh (loF M nT x) 0 0
  | 0, t, h => by
    obtain rfl : t = nT := by omega
    have e0 : loF M t x 0 3 = nI t := by rw [loF_out (by decide) (by decide)]; exact hT
    rw [e169_112]
    simp (disch := first | assumption | omega) only [e169_114, e169_115, e169_118, q_gv0, q_gvs, q_isI1, q_isA1, q_hs0, q_hsn, q_hsi, q_hsr, q_hss, q_inc1, List.set_cons_zero, List.set_cons_succ, ↓reduceIte, q_ss0, q_ssi, q_ssr, q_nr0, q_nr10, q_nr11, q_tlS, q_tlN, q_cl, q_let, q_lef, q_ltt, q_ltf, q_eqt, q_eqf, q_add, q_mul, Nat.reduceAdd, Nat.reduceLeDiff, Nat.reduceEqDiff, eq_self, Nat.zero_le, Nat.le_refl, not_false_eq_true, not_true_eq_false, true_and, and_true, and_self, if_true, if_false, p1.g3, e0]
    exact hQ _
  | n + 1, t, h => by
    have ih := lp169u h168 p1 hT hT6 hx hQ n (t + 1) (by omega)
    have e0 : loF M nT x 0 3 = nI nT := by rw [loF_out (by decide) (by decide)]; exact hT
    have e3 : loF M nT x 3 = M 3 := loF_out (by decide) (by decide) _
    have ef : flG (loF M nT x) t = flG M t := by unfold flG; rw [e3]
    have t6 : t < 6 := by omega
    obtain ⟨hh, h4, he⟩ := hlF_lt (nI x) t
    have e1 : shY M x (t + 1) = nI 10 * shY M x t + M 3 (4 * t + hh) := by
      show clF _ t * nI 10 + M 3 (4 * t + (hlF (nI x) t).toNatClampNeg) = _
      rw [he, q_cl (by omega), Int32.mul_comm]
      rfl
    have e2 : akY M x (t + 1) = akY M x t ||| (nI (faF (flG M t) hh hh) <<< (nI (2 * t) &&& 31)) := by
      show akY M x t ||| (nI (faF (flG M t) (hlF (nI x) t).toNatClampNeg (hlF (nI x) t).toNatClampNeg) <<< (nI (2 * t) &&& 31)) = _
      rw [he, q_cl (by omega)]
    rw [e1, e2] at ih
    have he : nI x >>> (nI (2 * t) &&& 31) &&& nI 3 = nI hh := he
    rw [e169_112]
    simp (disch := first | assumption | omega) only [e169_114, e169_115, e169_118, e169_121, e169_123, e169_124, e169_125, e169_126, e169_129, e169_130, e169_132, e169_133, e169_134, e169_135, e169_137, e169_138, e169_139, e169_140, e169_141, e169_142, e169_143, e169_144, e169_145, e169_146, e169_147, e169_149, e169_150, e169_151, e169_153, e169_154, e169_155, e169_156, e169_157, e169_160, e169_161, e169_163, e169_164, e169_165, e169_166, e169_167, e169_170, q_gv0, q_gvs, q_isI1, q_isA1, q_hs0, q_hsn, q_hsi, q_hsr, q_hss, q_inc1, List.set_cons_zero, List.set_cons_succ, ↓reduceIte, q_ss0, q_ssi, q_ssr, q_nr0, q_nr10, q_nr11, q_tlS, q_tlN, q_cl, q_let, q_lef, q_ltt, q_ltf, q_eqt, q_eqf, q_add, q_mul, Nat.reduceAdd, Nat.reduceLeDiff, Nat.reduceEqDiff, eq_self, Nat.zero_le, Nat.le_refl, not_false_eq_true, not_true_eq_false, true_and, and_true, and_self, if_true, if_false, p1.o, p1.g3, p1.g5, p1.l3, e0, e3, he, cl168 h168, ef]
    exact ih
theorem lp169b {S : Nat → mv_Sp} (h168 : S 168 = sp168) {sh : mv_Shp} {M : mv_Mem} {P : mv_Post} {nT A : Nat} (p1 : oM sh) (hT : M 0 3 = nI nT) (hT6 : nT ≤ 6) (hA : M 0 32 = nI A) (hA4 : A ≤ 4096) (hQ : P none sh (loF M nT A)) :
    ∀ n x z1 z2 z3, x + n = A → mr169 S P 97 [some (.ref 0), some (.int (nI x)), z1, z2, z3] [] sh (loF M nT x) 0 0
  | 0, x, z1, z2, z3, h => by
    obtain rfl : x = A := by omega
    have e : loF M nT x 0 32 = nI x := by rw [loF_out (by decide) (by decide)]; exact hA
    rw [e169_97]
    simp (disch := first | assumption | omega) only [e169_98, e169_99, e169_102, e169_193, q_gv0, q_gvs, q_isI1, q_isA1, q_hs0, q_hsn, q_hsi, q_hsr, q_hss, q_inc1, List.set_cons_zero, List.set_cons_succ, ↓reduceIte, q_ss0, q_ssi, q_ssr, q_nr0, q_nr10, q_nr11, q_tlS, q_tlN, q_cl, q_let, q_lef, q_ltt, q_ltf, q_eqt, q_eqf, q_add, q_mul, Nat.reduceAdd, Nat.reduceLeDiff, Nat.reduceEqDiff, eq_self, Nat.zero_le, Nat.le_refl, not_false_eq_true, not_true_eq_false, true_and, and_true, and_self, if_true, if_false, p1.g32, e]
    exact hQ
  | n + 1, x, z1, z2, z3, h => by
    have ih := lp169b h168 p1 hT hT6 hA hA4 hQ n (x + 1)
    have e : loF M nT x 0 32 = nI A := by rw [loF_out (by decide) (by decide)]; exact hA
    unfold loF at ih
    rw [e169_97]
    simp (disch := first | assumption | omega) only [e169_98, e169_99, e169_102, e169_105, e169_106, e169_107, e169_108, e169_109, e169_110, q_gv0, q_gvs, q_isI1, q_isA1, q_hs0, q_hsn, q_hsi, q_hsr, q_hss, q_inc1, List.set_cons_zero, List.set_cons_succ, ↓reduceIte, q_ss0, q_ssi, q_ssr, q_nr0, q_nr10, q_nr11, q_tlS, q_tlN, q_cl, q_let, q_lef, q_ltt, q_ltf, q_eqt, q_eqf, q_add, q_mul, Nat.reduceAdd, Nat.reduceLeDiff, Nat.reduceEqDiff, eq_self, Nat.zero_le, Nat.le_refl, not_false_eq_true, not_true_eq_false, true_and, and_true, and_self, if_true, if_false, p1.g32, e]
    refine lp169u h168 p1 hT hT6 (show x < 4096 by omega) (fun z => ?_) nT 0 (by omega)
    simp (disch := first | assumption | omega) only [e169_173, e169_174, e169_177, e169_178, e169_179, e169_180, e169_181, e169_184, e169_185, e169_186, e169_187, e169_190, q_gv0, q_gvs, q_isI1, q_isA1, q_hs0, q_hsn, q_hsi, q_hsr, q_hss, q_inc1, List.set_cons_zero, List.set_cons_succ, ↓reduceIte, q_ss0, q_ssi, q_ssr, q_nr0, q_nr10, q_nr11, q_tlS, q_tlN, q_cl, q_let, q_lef, q_ltt, q_ltf, q_eqt, q_eqf, q_add, q_mul, Nat.reduceAdd, Nat.reduceLeDiff, Nat.reduceEqDiff, eq_self, Nat.zero_le, Nat.le_refl, not_false_eq_true, not_true_eq_false, true_and, and_true, and_self, if_true, if_false, p1.g29, p1.g30, p1.s16, p1.s17]
    exact ih _ _ _ (by omega)
def lhA (M : mv_Mem) : mv_Mem := mv_up M 0 32 (nI (4 ^ (M 0 3).toNatClampNeg))
def lhM (M : mv_Mem) : mv_Mem := loF (adF (lhA M) (M 0 3).toNatClampNeg (2 * (M 0 7).toNatClampNeg)) (M 0 3).toNatClampNeg (4 ^ (M 0 3).toNatClampNeg)
def sp169 : mv_Sp := fun As sh M Q => As = [.ref 0] ∧ ((oM sh) ∧ (gM M)) ∧ Q (none) (sh) (lhM M)
theorem cl169 {S : Nat → mv_Sp} (hS : S 169 = sp169) {sh : mv_Shp} {M : mv_Mem}  (p1 : oM sh) (p2 : gM M) {K : mv_Kt} {pc : Nat} {L : mv_Loc} {st : List Value} {cc_ ss_ : Nat} : mv_kal S 169 [.ref 0] sh M K pc L st cc_ ss_ = K pc L ((none : Option Value).toList ++ st) (sh) (lhM M) cc_ ss_ := by
  refine q_kal (fun F => q_cali (fun Q => ?_))
  rw [hS]
  constructor
  · rintro ⟨hE, ⟨zp1, zp2⟩, hQ⟩
    exact hQ
  · intro hQ
    exact ⟨rfl, ⟨p1, p2⟩, hQ⟩
theorem ct169 {S : Nat → mv_Sp} (h148 : S 148 = sp148) (h158 : S 158 = sp158) (h168 : S 168 = sp168) : ∀ As sh M P, sp169 As sh M P → (mv_al0 As).length ≤ 5 ∧ mr169 S P 0 (mv_ent As 5) [] sh M 0 0 := by
  rintro As sh M P ⟨rfl, ⟨p1, p2⟩, hQ⟩
  refine ⟨Nat.le_of_ble_eq_true rfl, ?_⟩
  show mr169 S P 0 [some (.ref 0), none, none, none, none] [] sh M 0 0
  obtain ⟨nT, h6, hT⟩ := id p2.1
  obtain ⟨nP, hP6, hP⟩ := id p2.2.1
  have hk := p2.2.2.2.2.1
  have f4 := four ⟨nT, by omega⟩
  have f1 : nI 1 <<< (nI (2 * nT) &&& 31) = nI (4 ^ nT) := f4.1
  have f2 : 4 ^ nT ≤ 4096 := f4.2
  unfold lhM lhA at hQ
  rw [hT, hP, q_cl (show nT < 2147483648 by omega), q_cl (show nP < 2147483648 by omega)] at hQ
  rw [hT, q_cl (show nT < 2147483648 by omega)] at hk
  simp (disch := first | assumption | omega) only [e169_0, e169_1, e169_2, e169_3, e169_4, e169_7, e169_8, e169_9, e169_12, e169_13, q_gv0, q_gvs, q_isI1, q_isA1, q_hs0, q_hsn, q_hsi, q_hsr, q_hss, q_inc1, List.set_cons_zero, List.set_cons_succ, ↓reduceIte, q_ss0, q_ssi, q_ssr, q_nr0, q_nr10, q_nr11, q_tlS, q_tlN, q_cl, q_let, q_lef, q_ltt, q_ltf, q_eqt, q_eqf, q_add, q_mul, Nat.reduceAdd, Nat.reduceLeDiff, Nat.reduceEqDiff, eq_self, Nat.zero_le, Nat.le_refl, not_false_eq_true, not_true_eq_false, true_and, and_true, and_self, if_true, if_false, p1.g3, p1.p32, hT, f1]
  have g3 : mv_up M 0 32 (nI (4 ^ nT)) 0 3 = nI nT := by rw [q_upN (by decide)]; exact hT
  have g7 : mv_up M 0 32 (nI (4 ^ nT)) 0 7 = nI nP := by rw [q_upN (by decide)]; exact hP
  have gk : ∀ t, t < nT → ∃ k, k < 4 ∧ mv_up M 0 32 (nI (4 ^ nT)) 2 t = nI k := by rw [q_upO (by decide)]; exact hk
  have g32 : mv_up M 0 32 (nI (4 ^ nT)) 0 32 = nI (4 ^ nT) := q_upS
  generalize mv_up M 0 32 (nI (4 ^ nT)) = N at *
  refine lp169a h148 h158 p1 g3 h6 g7 hP6 gk (fun x1 x2 => ?_) (2 * nP) 0 none (by omega)
  simp (disch := first | assumption | omega) only [e169_95, e169_96, q_gv0, q_gvs, q_isI1, q_isA1, q_hs0, q_hsn, q_hsi, q_hsr, q_hss, q_inc1, List.set_cons_zero, List.set_cons_succ, ↓reduceIte, q_ss0, q_ssi, q_ssr, q_nr0, q_nr10, q_nr11, q_tlS, q_tlN, q_cl, q_let, q_lef, q_ltt, q_ltf, q_eqt, q_eqf, q_add, q_mul, Nat.reduceAdd, Nat.reduceLeDiff, Nat.reduceEqDiff, eq_self, Nat.zero_le, Nat.le_refl, not_false_eq_true, not_true_eq_false, true_and, and_true, and_self, if_true, if_false]
  exact lp169b h168 p1 (by rw [adF_out (by decide)]; exact g3) h6 (by rw [adF_out (by decide)]; exact g32) f2 hQ (4 ^ nT) 0 x2 none none (by omega)
