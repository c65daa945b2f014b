/-! reached, kept -/
theorem shB_of {M N : mv_Mem} {o v : Nat} {x : Int32} (h0 : N o = M o) (h3 : N (o + 3) = M (o + 3)) : shB N o x v = shB M o x v := by
  unfold shB
  rw [h0, h3]
/-- is a number on the list told by v -/
def rhF (M : mv_Mem) (a o v : Nat) : Nat → Nat → Nat
  | 0, _ => 0
  | n + 1, i => if shB M o (M (a + 1) i) v = 1 then 1 else rhF M a o v n (i + 1)
theorem lp116 {S : Nat → mv_Sp} (h74 : S 74 = sp74) {sh : mv_Shp} {M : mv_Mem} {P : mv_Post} {a o v l : Nat} {x y : Int32} (p1 : oS sh a) (p2 : oL sh o) (hG : ∃ n, n ≤ 6 ∧ M o 0 = nI n) (hv : v < 2147483648) (hL : M a 3 = nI l) (hl : l < 4097) :
    ∀ n i, i + n = l → P (some (.int (nI (rhF M a o v n i)))) sh M →
      mr116 S P 10 [some (.ref a), some (.ref o), some (.int x), some (.int y), some (.int (nI v)), some (.int (nI i))] [] sh M 0 0
  | 0, i, h, hQ => by
    obtain rfl : i = l := by omega
    rw [e116_10]
    simp (disch := first | assumption | omega) only [e116_0, e116_1, e116_2, e116_3, e116_4, e116_7, e116_8, e116_12, e116_13, e116_16, e116_19, e116_21, e116_24, e116_27, e116_28, e116_29, e116_32, e116_34, e116_35, e116_37, e116_40, e116_43, e116_44, e116_45, e116_48, e116_51, e116_52, q_gv0, q_gvs, q_isI1, q_isA1, q_hs0, q_hsn, q_hsi, q_hsr, q_hss, q_inc1, List.set_cons_zero, List.set_cons_succ, ↓reduceIte, q_ss0, q_ssi, q_ssr, q_nr0, q_nr10, q_nr11, q_tlS, q_tlN, q_cl, q_let, q_lef, q_ltt, q_ltf, q_eqt, q_eqf, q_add, q_mul, Nat.reduceAdd, Nat.reduceLeDiff, Nat.reduceEqDiff, eq_self, Nat.zero_le, Nat.le_refl, not_false_eq_true, not_true_eq_false, true_and, and_true, and_self, if_true, if_false, p1.g3, hL]
    exact hQ
  | n + 1, i, h, hQ => by
    unfold rhF at hQ
    have s1 : shB M o (M (a + 1) i) v = 0 ∨ shB M o (M (a + 1) i) v = 1 := shF_01 _ _ _
    rw [e116_10]
    rcases s1 with s1 | s1
    · rw [if_neg (by rw [s1]; decide)] at hQ
      simp (disch := first | assumption | omega) only [e116_0, e116_1, e116_2, e116_3, e116_4, e116_7, e116_8, e116_12, e116_13, e116_16, e116_19, e116_21, e116_24, e116_27, e116_28, e116_29, e116_32, e116_34, e116_35, e116_37, e116_40, e116_43, e116_44, e116_45, e116_48, e116_51, e116_52, q_gv0, q_gvs, q_isI1, q_isA1, q_hs0, q_hsn, q_hsi, q_hsr, q_hss, q_inc1, List.set_cons_zero, List.set_cons_succ, ↓reduceIte, q_ss0, q_ssi, q_ssr, q_nr0, q_nr10, q_nr11, q_tlS, q_tlN, q_cl, q_let, q_lef, q_ltt, q_ltf, q_eqt, q_eqf, q_add, q_mul, Nat.reduceAdd, Nat.reduceLeDiff, Nat.reduceEqDiff, eq_self, Nat.zero_le, Nat.le_refl, not_false_eq_true, not_true_eq_false, true_and, and_true, and_self, if_true, if_false, p1.g3, p1.g0, p1.l1, p2.o, hL, cr74 h74, s1]
      exact lp116 h74 p1 p2 hG hv hL hl n (i + 1) (by omega) hQ
    · rw [if_pos s1] at hQ
      simp (disch := first | assumption | omega) only [e116_0, e116_1, e116_2, e116_3, e116_4, e116_7, e116_8, e116_12, e116_13, e116_16, e116_19, e116_21, e116_24, e116_27, e116_28, e116_29, e116_32, e116_34, e116_35, e116_37, e116_40, e116_43, e116_44, e116_45, e116_48, e116_51, e116_52, q_gv0, q_gvs, q_isI1, q_isA1, q_hs0, q_hsn, q_hsi, q_hsr, q_hss, q_inc1, List.set_cons_zero, List.set_cons_succ, ↓reduceIte, q_ss0, q_ssi, q_ssr, q_nr0, q_nr10, q_nr11, q_tlS, q_tlN, q_cl, q_let, q_lef, q_ltt, q_ltf, q_eqt, q_eqf, q_add, q_mul, Nat.reduceAdd, Nat.reduceLeDiff, Nat.reduceEqDiff, eq_self, Nat.zero_le, Nat.le_refl, not_false_eq_true, not_true_eq_false, true_and, and_true, and_self, if_true, if_false, p1.g3, p1.g0, p1.l1, p2.o, hL, cr74 h74, s1]
      exact hQ
theorem sdI_out {a k b : Nat} (h : ¬ b = a) (h1 : ¬ b = a + 1) (h2 : ¬ b = a + 2) : ∀ n j M, sdI a k n j M b = M b
  | 0, _, _ => rfl
  | n + 1, j, M => by unfold sdI; rw [sdI_out h h1 h2 n]; exact enM_out h h1 h2
theorem sdO_out {a x g l0 b : Nat} (h : ¬ b = a) (h1 : ¬ b = a + 1) (h2 : ¬ b = a + 2) : ∀ n k M, sdO a x g l0 n k M b = M b
  | 0, _, _ => rfl
  | n + 1, k, M => by
    unfold sdO
    split
    · rw [sdO_out h h1 h2 n]; exact sdI_out h h1 h2 _ _ _
    · rfl
theorem slM_out {M : mv_Mem} {a x b : Nat} {v : Int32} (h : ¬ b = a) (h1 : ¬ b = a + 1) (h2 : ¬ b = a + 2) : slM M a x v b = M b := by
  unfold slM
  rw [enM_out h h1 h2, q_upO h, fiM_out h2]
theorem rcL_out {a x b : Nat} {y : Int32} (h : ¬ b = a) (h1 : ¬ b = a + 1) (h2 : ¬ b = a + 2) : ∀ n s M, rcL a x y n s M b = M b
  | 0, _, _ => rfl
  | n + 1, s, M => by
    unfold rcL
    rw [rcL_out h h1 h2 n]
    split
    · exact sdO_out h h1 h2 _ _ _
    · rfl
theorem rcM_out {M : mv_Mem} {a o x b : Nat} {y : Int32} (h : ¬ b = a) (h1 : ¬ b = a + 1) (h2 : ¬ b = a + 2) (h3 : ¬ b = a + 3) : rcM M a o x y b = M b := by
  unfold rcM
  rw [rcL_out h h1 h2, slM_out h h1 h2, tsF_out h3]
theorem gL_rc {M : mv_Mem} {a o x : Nat} {y : Int32} (h : gL M o) (ho : o + 6 < a) : gL (rcM M a o x y) o :=
  gL_of h (rcM_out (by omega) (by omega) (by omega) (by omega)) (rcM_out (by omega) (by omega) (by omega) (by omega)) (rcM_out (by omega) (by omega) (by omega) (by omega)) (rcM_out (by omega) (by omega) (by omega) (by omega)) (rcM_out (by omega) (by omega) (by omega) (by omega)) (rcM_out (by omega) (by omega) (by omega) (by omega)) (rcM_out (by omega) (by omega) (by omega) (by omega))
theorem sL_rcM {M : mv_Mem} {a o x : Nat} {y : Int32} (h : sT M a) (hG : gL M o) (hx : x < 4096) : sL (rcM M a o x y) a := by
  obtain ⟨nT, h6, hT⟩ := hG.1
  unfold rcM
  rw [hT, q_cl (show nT < 2147483648 by omega)]
  exact sL_rc _ _ _ (sL_sl (sT_ts h h6 _) hx)
def sp116 : mv_Sp := fun As sh M Q => ∃ (a : Nat) (o : Nat) (x : Nat) (y : Int32) (v : Nat), As = [.ref a, .ref o, .int (nI x), .int y, .int (nI v)] ∧ ((oS sh a) ∧ (oL sh o) ∧ (o + 6 < a) ∧ (gL M o) ∧ (x < 4096) ∧ (sT M a) ∧ (v < 2147483648)) ∧ Q (some (.int (nI (rhF (rcM M a o x y) a o v (rcM M a o x y a 3).toNatClampNeg 0)))) (sh) (rcM M a o x y)
theorem cl116 {S : Nat → mv_Sp} (hS : S 116 = sp116) {sh : mv_Shp} {M : mv_Mem} {a : Nat} {o : Nat} {x : Nat} {y : Int32} {v : Nat} (p1 : oS sh a) (p2 : oL sh o) (p3 : o + 6 < a) (p4 : gL M o) (p5 : x < 4096) (p6 : sT M a) (p7 : v < 2147483648) {K : mv_Kt} {pc : Nat} {L : mv_Loc} {st : List Value} {cc_ ss_ : Nat} : mv_kal S 116 [.ref a, .ref o, .int (nI x), .int y, .int (nI v)] sh M K pc L st cc_ ss_ = K pc L ((some (.int (nI (rhF (rcM M a o x y) a o v (rcM M a o x y a 3).toNatClampNeg 0))) : Option Value).toList ++ st) (sh) (rcM M a o x y) cc_ ss_ := by
  refine q_kal (fun F => q_cali (fun Q => ?_))
  rw [hS]
  constructor
  · rintro ⟨a', o', x', y', v', hE, ⟨zp1, zp2, zp3, zp4, zp5, zp6, zp7⟩, hQ⟩
    simp only [List.cons.injEq, Value.ref.injEq, Value.int.injEq, Value.long.injEq, and_true, true_and] at hE
    obtain ⟨rfl, rfl, e_x, rfl, e_v⟩ := hE
    have z_x := nI_inj e_x (by omega) (by omega)
    subst z_x
    have z_v := nI_inj e_v (by omega) (by omega)
    subst z_v
    exact hQ
  · intro hQ
    exact ⟨a, o, x, y, v, rfl, ⟨p1, p2, p3, p4, p5, p6, p7⟩, hQ⟩
theorem ct116 {S : Nat → mv_Sp} (h74 : S 74 = sp74) (h87 : S 87 = sp87) : ∀ As sh M P, sp116 As sh M P → (mv_al0 As).length ≤ 6 ∧ mr116 S P 0 (mv_ent As 6) [] sh M 0 0 := by
  rintro As sh M P ⟨a, o, x, y, v, rfl, ⟨p1, p2, p3, p4, p5, p6, p7⟩, hQ⟩
  refine ⟨Nat.le_of_ble_eq_true rfl, ?_⟩
  show mr116 S P 0 [some (.ref a), some (.ref o), some (.int (nI x)), some (.int y), some (.int (nI v)), none] [] sh M 0 0
  have hG := gL_rc (x := x) (y := y) p4 p3
  have hs := sL_rcM (y := y) p6 p4 p5
  simp (disch := first | assumption | omega) only [e116_0, e116_1, e116_2, e116_3, e116_4, e116_7, e116_8, q_gv0, q_gvs, q_isI1, q_isA1, q_hs0, q_hsn, q_hsi, q_hsr, q_hss, q_inc1, List.set_cons_zero, List.set_cons_succ, ↓reduceIte, q_ss0, q_ssi, q_ssr, q_nr0, q_nr10, q_nr11, q_tlS, q_tlN, q_cl, q_let, q_lef, q_ltt, q_ltf, q_eqt, q_eqf, q_add, q_mul, Nat.reduceAdd, Nat.reduceLeDiff, Nat.reduceEqDiff, eq_self, Nat.zero_le, Nat.le_refl, not_false_eq_true, not_true_eq_false, true_and, and_true, and_self, if_true, if_false, p1.o, cl87 h87]
  generalize rcM M a o x y = N at hQ hG hs ⊢
  obtain ⟨l, hl, hL⟩ := hs.1
  rw [hL, q_cl (show l < 2147483648 by omega)] at hQ
  exact lp116 h74 p1 p2 hG.1 p7 hL hl l 0 (by omega) hQ
/-- the marks of those that v doesn't tell put to nought -/
def ktF (M : mv_Mem) (a o v : Nat) : Nat → mv_Mem
  | 0 => M
  | i + 1 => if M (a + 2) i = nI 0 then ktF M a o v i else if shB M o (nI i) v = 1 then ktF M a o v i else mv_up (ktF M a o v i) (a + 2) i (nI 0)
theorem ktF_out {M : mv_Mem} {a o v b : Nat} (h : ¬ b = a + 2) : ∀ n, ktF M a o v n b = M b
  | 0 => rfl
  | n + 1 => by
    unfold ktF
    split
    · exact ktF_out h n
    split
    · exact ktF_out h n
    · rw [q_upO h]; exact ktF_out h n
theorem ktF_at {M : mv_Mem} {a o v j : Nat} : ∀ n, n ≤ j → ktF M a o v n (a + 2) j = M (a + 2) j
  | 0, _ => rfl
  | n + 1, h => by
    unfold ktF
    split
    · exact ktF_at n (by omega)
    split
    · exact ktF_at n (by omega)
    · rw [q_upN (fun z => by omega)]; exact ktF_at n (by omega)
theorem lp111 {S : Nat → mv_Sp} (h74 : S 74 = sp74) {sh : mv_Shp} {M : mv_Mem} {P : mv_Post} {a o v : Nat} (p1 : oS sh a) (p2 : oL sh o) (p3 : o + 6 < a) (hG : ∃ n, n ≤ 6 ∧ M o 0 = nI n) (hv : v < 2147483648) (hQ : P none sh (ktF M a o v 4096)) :
    ∀ n i, i + n = 4096 → mr111 S P 2 [some (.ref a), some (.ref o), some (.int (nI v)), some (.int (nI i))] [] sh (ktF M a o v i) 0 0
  | 0, i, h => by
    obtain rfl : i = 4096 := by omega
    rw [e111_2]
    simp (disch := first | assumption | omega) only [e111_0, e111_1, e111_3, e111_6, e111_9, e111_10, e111_13, e111_14, e111_15, e111_18, e111_19, e111_20, e111_21, e111_24, e111_27, e111_28, e111_31, e111_32, e111_33, e111_34, e111_37, e111_40, q_gv0, q_gvs, q_isI1, q_isA1, q_hs0, q_hsn, q_hsi, q_hsr, q_hss, q_inc1, List.set_cons_zero, List.set_cons_succ, ↓reduceIte, q_ss0, q_ssi, q_ssr, q_nr0, q_nr10, q_nr11, q_tlS, q_tlN, q_cl, q_let, q_lef, q_ltt, q_ltf, q_eqt, q_eqf, q_add, q_mul, Nat.reduceAdd, Nat.reduceLeDiff, Nat.reduceEqDiff, eq_self, Nat.zero_le, Nat.le_refl, not_false_eq_true, not_true_eq_false, true_and, and_true, and_self, if_true, if_false]
    exact hQ
  | n + 1, i, h => by
    have ih := lp111 h74 p1 p2 p3 hG hv hQ n (i + 1) (by omega)
    have e1 : ktF M a o v i (a + 2) i = M (a + 2) i := ktF_at i (Nat.le_refl _)
    have e2 : shB (ktF M a o v i) o (nI i) v = shB M o (nI i) v := shB_of (ktF_out (by omega) _) (ktF_out (by omega) _)
    have g : ∃ n, n ≤ 6 ∧ ktF M a o v i o 0 = nI n := by rw [ktF_out (by omega)]; exact hG
    have s1 : shB M o (nI i) v = 0 ∨ shB M o (nI i) v = 1 := shF_01 _ _ _
    unfold ktF at ih
    rw [e111_2]
    by_cases c : M (a + 2) i = nI 0
    · rw [if_pos c] at ih
      simp (disch := first | assumption | omega) only [e111_0, e111_1, e111_3, e111_6, e111_9, e111_10, e111_13, e111_14, e111_15, e111_18, e111_19, e111_20, e111_21, e111_24, e111_27, e111_28, e111_31, e111_32, e111_33, e111_34, e111_37, e111_40, q_gv0, q_gvs, q_isI1, q_isA1, q_hs0, q_hsn, q_hsi, q_hsr, q_hss, q_inc1, List.set_cons_zero, List.set_cons_succ, ↓reduceIte, q_ss0, q_ssi, q_ssr, q_nr0, q_nr10, q_nr11, q_tlS, q_tlN, q_cl, q_let, q_lef, q_ltt, q_ltf, q_eqt, q_eqf, q_add, q_mul, Nat.reduceAdd, Nat.reduceLeDiff, Nat.reduceEqDiff, eq_self, Nat.zero_le, Nat.le_refl, not_false_eq_true, not_true_eq_false, true_and, and_true, and_self, if_true, if_false, p1.g1, p1.l2, e1, c]
      exact ih
    · rw [if_neg c] at ih
      rcases s1 with s1 | s1
      · rw [if_neg (by rw [s1]; decide)] at ih
        simp (disch := first | assumption | omega) only [e111_0, e111_1, e111_3, e111_6, e111_9, e111_10, e111_13, e111_14, e111_15, e111_18, e111_19, e111_20, e111_21, e111_24, e111_27, e111_28, e111_31, e111_32, e111_33, e111_34, e111_37, e111_40, q_gv0, q_gvs, q_isI1, q_isA1, q_hs0, q_hsn, q_hsi, q_hsr, q_hss, q_inc1, List.set_cons_zero, List.set_cons_succ, ↓reduceIte, q_ss0, q_ssi, q_ssr, q_nr0, q_nr10, q_nr11, q_tlS, q_tlN, q_cl, q_let, q_lef, q_ltt, q_ltf, q_eqt, q_eqf, q_add, q_mul, Nat.reduceAdd, Nat.reduceLeDiff, Nat.reduceEqDiff, eq_self, Nat.zero_le, Nat.le_refl, not_false_eq_true, not_true_eq_false, true_and, and_true, and_self, if_true, if_false, p1.g1, p1.l2, p1.s2, p2.o, e1, c, cr74 h74, e2, s1]
        exact ih
      · rw [if_pos s1] at ih
        simp (disch := first | assumption | omega) only [e111_0, e111_1, e111_3, e111_6, e111_9, e111_10, e111_13, e111_14, e111_15, e111_18, e111_19, e111_20, e111_21, e111_24, e111_27, e111_28, e111_31, e111_32, e111_33, e111_34, e111_37, e111_40, q_gv0, q_gvs, q_isI1, q_isA1, q_hs0, q_hsn, q_hsi, q_hsr, q_hss, q_inc1, List.set_cons_zero, List.set_cons_succ, ↓reduceIte, q_ss0, q_ssi, q_ssr, q_nr0, q_nr10, q_nr11, q_tlS, q_tlN, q_cl, q_let, q_lef, q_ltt, q_ltf, q_eqt, q_eqf, q_add, q_mul, Nat.reduceAdd, Nat.reduceLeDiff, Nat.reduceEqDiff, eq_self, Nat.zero_le, Nat.le_refl, not_false_eq_true, not_true_eq_false, true_and, and_true, and_self, if_true, if_false, p1.g1, p1.l2, p1.s2, p2.o, e1, c, cr74 h74, e2, s1]
        exact ih
def sp111 : mv_Sp := fun As sh M Q => ∃ (a : Nat) (o : Nat) (v : Nat), As = [.ref a, .ref o, .int (nI v)] ∧ ((oS sh a) ∧ (oL sh o) ∧ (o + 6 < a) ∧ (∃ n, n ≤ 6 ∧ M o 0 = nI n) ∧ (v < 2147483648)) ∧ Q (none) (sh) (ktF M a o v 4096)
theorem cl111 {S : Nat → mv_Sp} (hS : S 111 = sp111) {sh : mv_Shp} {M : mv_Mem} {a : Nat} {o : Nat} {v : Nat} (p1 : oS sh a) (p2 : oL sh o) (p3 : o + 6 < a) (p4 : ∃ n, n ≤ 6 ∧ M o 0 = nI n) (p5 : v < 2147483648) {K : mv_Kt} {pc : Nat} {L : mv_Loc} {st : List Value} {cc_ ss_ : Nat} : mv_kal S 111 [.ref a, .ref o, .int (nI v)] sh M K pc L st cc_ ss_ = K pc L ((none : Option Value).toList ++ st) (sh) (ktF M a o v 4096) cc_ ss_ := by
  refine q_kal (fun F => q_cali (fun Q => ?_))
  rw [hS]
  constructor
  · rintro ⟨a', o', v', hE, ⟨zp1, zp2, zp3, zp4, zp5⟩, hQ⟩
    simp only [List.cons.injEq, Value.ref.injEq, Value.int.injEq, Value.long.injEq, and_true, true_and] at hE
    obtain ⟨rfl, rfl, e_v⟩ := hE
    have z_v := nI_inj e_v (by omega) (by omega)
    subst z_v
    exact hQ
  · intro hQ
    exact ⟨a, o, v, rfl, ⟨p1, p2, p3, p4, p5⟩, hQ⟩
theorem ct111 {S : Nat → mv_Sp} (h74 : S 74 = sp74) : ∀ As sh M P, sp111 As sh M P → (mv_al0 As).length ≤ 4 ∧ mr111 S P 0 (mv_ent As 4) [] sh M 0 0 := by
  rintro As sh M P ⟨a, o, v, rfl, ⟨p1, p2, p3, p4, p5⟩, hQ⟩
  refine ⟨Nat.le_of_ble_eq_true rfl, ?_⟩
  show mr111 S P 0 [some (.ref a), some (.ref o), some (.int (nI v)), none] [] sh M 0 0
  simp (disch := first | assumption | omega) only [e111_0, e111_1, q_gv0, q_gvs, q_isI1, q_isA1, q_hs0, q_hsn, q_hsi, q_hsr, q_hss, q_inc1, List.set_cons_zero, List.set_cons_succ, ↓reduceIte, q_ss0, q_ssi, q_ssr, q_nr0, q_nr10, q_nr11, q_tlS, q_tlN, q_cl, q_let, q_lef, q_ltt, q_ltf, q_eqt, q_eqf, q_add, q_mul, Nat.reduceAdd, Nat.reduceLeDiff, Nat.reduceEqDiff, eq_self, Nat.zero_le, Nat.le_refl, not_false_eq_true, not_true_eq_false, true_and, and_true, and_self, if_true, if_false]
  exact lp111 h74 p1 p2 p3 p4 p5 hQ 4096 0 (by omega)
