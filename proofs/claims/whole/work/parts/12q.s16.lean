/-! spreading -/
def sT (M : mv_Mem) (a : Nat) : Prop := ∀ i, i < 12 → ∃ k, k < 4096 ∧ M (a + 3) i = nI k
def sO (M : mv_Mem) (a m : Nat) : Prop := (∃ l, l < 4097 ∧ M a 3 = nI l) ∧ (∀ i, i < m → ∃ k, k < 4096 ∧ M (a + 1) i = nI k) ∧ sT M a
def sL (M : mv_Mem) (a : Nat) : Prop := sO M a (M a 3).toNatClampNeg
theorem sO_en {M : mv_Mem} {a x m : Nat} {v : Int32} (h : sO M a m) (hx : x < 4096) : sO (enM M a x v) a m := by
  obtain ⟨⟨l, hl, hL⟩, h1, h2⟩ := h
  unfold enM
  split
  · rw [hL, q_cl (by omega)]
    split
    · exact ⟨⟨l, hl, hL⟩, h1, h2⟩
    · refine ⟨⟨l + 1, by omega, q_upS⟩, fun i hi => ?_, fun i hi => ?_⟩
      · rw [q_upO (by omega)]
        by_cases z : i = l
        · subst z
          exact ⟨x, hx, q_upS⟩
        · rw [q_upN (fun y => z y.2), q_upO (by omega)]
          exact h1 i hi
      · rw [q_upO (by omega), q_upO (by omega), q_upO (by omega)]
        exact h2 i hi
  · exact ⟨⟨l, hl, hL⟩, h1, h2⟩
theorem sL_en {M : mv_Mem} {a x : Nat} {v : Int32} (h : sL M a) (hx : x < 4096) : sL (enM M a x v) a := by
  obtain ⟨⟨l, hl, hL⟩, h1, h2⟩ := h
  rw [hL, q_cl (show l < 2147483648 by omega)] at h1
  have e := sO_en (m := l) (v := v) ⟨⟨l, hl, hL⟩, h1, h2⟩ hx
  refine ⟨e.1, ?_, e.2.2⟩
  unfold enM
  split
  · rw [hL, q_cl (show l < 2147483648 by omega)]
    split
    · rw [hL, q_cl (show l < 2147483648 by omega)]
      exact h1
    · rw [q_upS, q_cl (show l + 1 < 2147483648 by omega)]
      intro i hi
      rw [q_upO (by omega)]
      by_cases z : i = l
      · subst z
        exact ⟨x, hx, q_upS⟩
      · rw [q_upN (fun y => z y.2), q_upO (by omega)]
        exact h1 i (by omega)
  · rw [hL, q_cl (show l < 2147483648 by omega)]
    exact h1
def sdI (a k : Nat) : Nat → Nat → mv_Mem → mv_Mem
  | 0, _, M => M
  | n + 1, j, M => sdI a k n (j + 1) (enM M a (adN (M (a + 1) j).toNatClampNeg k) (Int32.ofInt (-1)))
theorem sO_sdI {a k m : Nat} : ∀ n j (M : mv_Mem), sO M a m → sO (sdI a k n j M) a m
  | 0, _, _, h => h
  | n + 1, j, M, h => sO_sdI n (j + 1) _ (sO_en h (adN_lt _ _))
theorem sL_sdI {a k : Nat} : ∀ n j (M : mv_Mem), sL M a → sL (sdI a k n j M) a
  | 0, _, _, h => h
  | n + 1, j, M, h => sL_sdI n (j + 1) _ (sL_en h (adN_lt _ _))
def sdO (a x g l0 : Nat) : Nat → Nat → mv_Mem → mv_Mem
  | 0, _, M => M
  | n + 1, k, M => if M (a + 2) (adN x k) = nI 0 then sdO a x g l0 n (adN k g) (sdI a k l0 0 M) else M
theorem sL_sdO {a x g l0 : Nat} : ∀ n k (M : mv_Mem), sL M a → sL (sdO a x g l0 n k M) a
  | 0, _, _, h => h
  | n + 1, k, M, h => by
    unfold sdO
    split
    · exact sL_sdO n _ _ (sL_sdI _ _ _ h)
    · exact h
def spM (M : mv_Mem) (a x g : Nat) : mv_Mem := sdO a x g (M a 3).toNatClampNeg 3 g M
theorem lp86i {S : Nat → mv_Sp} (h51 : S 51 = sp51) (h82 : S 82 = sp82) {sh : mv_Shp} {P : mv_Post} {a k l0 : Nat} {x g i : Int32} (p1 : oS sh a) (hl0 : l0 < 4097) :
    ∀ n j (M : mv_Mem), j + n = l0 → sO M a l0 → (∀ z, mr86 S P 70 [some (.ref a), some (.int x), some (.int g), some (.int (nI l0)), some (.int (nI k)), some (.int i), z] [] sh (sdI a k n j M) 0 0) →
      mr86 S P 33 [some (.ref a), some (.int x), some (.int g), some (.int (nI l0)), some (.int (nI k)), some (.int i), some (.int (nI j))] [] sh M 0 0
  | 0, j, M, h, hM, hQ => by
    obtain rfl : j = l0 := by omega
    rw [e86_33]
    simp (disch := first | assumption | omega) only [e86_0, e86_1, e86_4, e86_5, e86_6, e86_8, e86_9, e86_11, e86_13, e86_14, e86_17, e86_18, e86_19, e86_21, e86_24, e86_27, e86_30, e86_31, e86_35, e86_36, e86_39, e86_41, e86_44, e86_47, e86_48, e86_49, e86_52, e86_54, e86_55, e86_57, e86_60, e86_61, e86_64, e86_67, e86_72, e86_73, e86_76, e86_78, e86_81, e86_84, q_gv0, q_gvs, q_isI1, q_isA1, q_hs0, q_hsn, q_hsi, q_hsr, q_hss, q_inc1, List.set_cons_zero, List.set_cons_succ, ↓reduceIte, q_ss0, q_ssi, q_ssr, q_nr0, q_nr10, q_nr11, q_tlS, q_tlN, q_cl, q_let, q_lef, q_ltt, q_ltf, q_eqt, q_eqf, q_add, q_mul, Nat.reduceAdd, Nat.reduceLeDiff, Nat.reduceEqDiff, eq_self, Nat.zero_le, Nat.le_refl, not_false_eq_true, not_true_eq_false, true_and, and_true, and_self, if_true, if_false]
    exact hQ _
  | n + 1, j, M, h, hM, hQ => by
    obtain ⟨hl, h1, h2⟩ := id hM
    obtain ⟨e, he, hE⟩ := h1 j (by omega)
    unfold sdI at hQ
    rw [hE, q_cl (by omega)] at hQ
    have b1 := adN_lt e k
    rw [e86_33]
    simp (disch := first | assumption | omega) only [e86_0, e86_1, e86_4, e86_5, e86_6, e86_8, e86_9, e86_11, e86_13, e86_14, e86_17, e86_18, e86_19, e86_21, e86_24, e86_27, e86_30, e86_31, e86_35, e86_36, e86_39, e86_41, e86_44, e86_47, e86_48, e86_49, e86_52, e86_54, e86_55, e86_57, e86_60, e86_61, e86_64, e86_67, e86_72, e86_73, e86_76, e86_78, e86_81, e86_84, q_gv0, q_gvs, q_isI1, q_isA1, q_hs0, q_hsn, q_hsi, q_hsr, q_hss, q_inc1, List.set_cons_zero, List.set_cons_succ, ↓reduceIte, q_ss0, q_ssi, q_ssr, q_nr0, q_nr10, q_nr11, q_tlS, q_tlN, q_cl, q_let, q_lef, q_ltt, q_ltf, q_eqt, q_eqf, q_add, q_mul, Nat.reduceAdd, Nat.reduceLeDiff, Nat.reduceEqDiff, eq_self, Nat.zero_le, Nat.le_refl, not_false_eq_true, not_true_eq_false, true_and, and_true, and_self, if_true, if_false, p1.g0, p1.l1, p1.o, hE, cr51 h51, adT_N, cl82 h82]
    exact lp86i h51 h82 p1 hl0 n (j + 1) _ (by omega) (sO_en hM b1) hQ
theorem lp86o {S : Nat → mv_Sp} (h51 : S 51 = sp51) (h82 : S 82 = sp82) (h85 : S 85 = sp85) {sh : mv_Shp} {P : mv_Post} {a x g l0 : Nat} (p1 : oS sh a) (hl0 : l0 < 4097) :
    ∀ n i k (M : mv_Mem) z, i + n = 4 → sO M a l0 → P none sh (sdO a x g l0 n k M) →
      mr86 S P 11 [some (.ref a), some (.int (nI x)), some (.int (nI g)), some (.int (nI l0)), some (.int (nI k)), some (.int (nI i)), z] [] sh M 0 0
  | 0, i, k, M, z, h, hM, hQ => by
    obtain rfl : i = 4 := by omega
    rw [e86_11]
    simp (disch := first | assumption | omega) only [e86_0, e86_1, e86_4, e86_5, e86_6, e86_8, e86_9, e86_13, e86_14, e86_17, e86_18, e86_19, e86_21, e86_24, e86_27, e86_30, e86_31, e86_35, e86_36, e86_39, e86_41, e86_44, e86_47, e86_48, e86_49, e86_52, e86_54, e86_55, e86_57, e86_60, e86_61, e86_64, e86_67, e86_70, e86_72, e86_73, e86_76, e86_78, e86_81, e86_84, q_gv0, q_gvs, q_isI1, q_isA1, q_hs0, q_hsn, q_hsi, q_hsr, q_hss, q_inc1, List.set_cons_zero, List.set_cons_succ, ↓reduceIte, q_ss0, q_ssi, q_ssr, q_nr0, q_nr10, q_nr11, q_tlS, q_tlN, q_cl, q_let, q_lef, q_ltt, q_ltf, q_eqt, q_eqf, q_add, q_mul, Nat.reduceAdd, Nat.reduceLeDiff, Nat.reduceEqDiff, eq_self, Nat.zero_le, Nat.le_refl, not_false_eq_true, not_true_eq_false, true_and, and_true, and_self, if_true, if_false]
    exact hQ
  | n + 1, i, k, M, z, h, hM, hQ => by
    have b1 := adN_lt x k
    unfold sdO at hQ
    rw [e86_11]
    by_cases c : M (a + 2) (adN x k) = nI 0
    · rw [if_pos c] at hQ
      simp (disch := first | assumption | omega) only [e86_0, e86_1, e86_4, e86_5, e86_6, e86_8, e86_9, e86_13, e86_14, e86_17, e86_18, e86_19, e86_21, e86_24, e86_27, e86_30, e86_31, e86_35, e86_36, e86_39, e86_41, e86_44, e86_47, e86_48, e86_49, e86_52, e86_54, e86_55, e86_57, e86_60, e86_61, e86_64, e86_67, e86_70, e86_72, e86_73, e86_76, e86_78, e86_81, e86_84, q_gv0, q_gvs, q_isI1, q_isA1, q_hs0, q_hsn, q_hsi, q_hsr, q_hss, q_inc1, List.set_cons_zero, List.set_cons_succ, ↓reduceIte, q_ss0, q_ssi, q_ssr, q_nr0, q_nr10, q_nr11, q_tlS, q_tlN, q_cl, q_let, q_lef, q_ltt, q_ltf, q_eqt, q_eqf, q_add, q_mul, Nat.reduceAdd, Nat.reduceLeDiff, Nat.reduceEqDiff, eq_self, Nat.zero_le, Nat.le_refl, not_false_eq_true, not_true_eq_false, true_and, and_true, and_self, if_true, if_false, p1.o, cr51 h51, adT_N, cl85 h85, c]
      refine lp86i h51 h82 p1 hl0 l0 0 M (by omega) hM (fun z => ?_)
      simp (disch := first | assumption | omega) only [e86_0, e86_1, e86_4, e86_5, e86_6, e86_8, e86_9, e86_13, e86_14, e86_17, e86_18, e86_19, e86_21, e86_24, e86_27, e86_30, e86_31, e86_35, e86_36, e86_39, e86_41, e86_44, e86_47, e86_48, e86_49, e86_52, e86_54, e86_55, e86_57, e86_60, e86_61, e86_64, e86_67, e86_70, e86_72, e86_73, e86_76, e86_78, e86_81, e86_84, q_gv0, q_gvs, q_isI1, q_isA1, q_hs0, q_hsn, q_hsi, q_hsr, q_hss, q_inc1, List.set_cons_zero, List.set_cons_succ, ↓reduceIte, q_ss0, q_ssi, q_ssr, q_nr0, q_nr10, q_nr11, q_tlS, q_tlN, q_cl, q_let, q_lef, q_ltt, q_ltf, q_eqt, q_eqf, q_add, q_mul, Nat.reduceAdd, Nat.reduceLeDiff, Nat.reduceEqDiff, eq_self, Nat.zero_le, Nat.le_refl, not_false_eq_true, not_true_eq_false, true_and, and_true, and_self, if_true, if_false, cr51 h51, adT_N]
      exact lp86o h51 h82 h85 p1 hl0 n (i + 1) _ _ _ (by omega) (sO_sdI _ _ _ hM) hQ
    · rw [if_neg c] at hQ
      simp (disch := first | assumption | omega) only [e86_0, e86_1, e86_4, e86_5, e86_6, e86_8, e86_9, e86_13, e86_14, e86_17, e86_18, e86_19, e86_21, e86_24, e86_27, e86_30, e86_31, e86_35, e86_36, e86_39, e86_41, e86_44, e86_47, e86_48, e86_49, e86_52, e86_54, e86_55, e86_57, e86_60, e86_61, e86_64, e86_67, e86_70, e86_72, e86_73, e86_76, e86_78, e86_81, e86_84, q_gv0, q_gvs, q_isI1, q_isA1, q_hs0, q_hsn, q_hsi, q_hsr, q_hss, q_inc1, List.set_cons_zero, List.set_cons_succ, ↓reduceIte, q_ss0, q_ssi, q_ssr, q_nr0, q_nr10, q_nr11, q_tlS, q_tlN, q_cl, q_let, q_lef, q_ltt, q_ltf, q_eqt, q_eqf, q_add, q_mul, Nat.reduceAdd, Nat.reduceLeDiff, Nat.reduceEqDiff, eq_self, Nat.zero_le, Nat.le_refl, not_false_eq_true, not_true_eq_false, true_and, and_true, and_self, if_true, if_false, p1.o, cr51 h51, adT_N, cl85 h85, c]
      exact hQ
def sp86 : mv_Sp := fun As sh M Q => ∃ (a : Nat) (x : Nat) (g : Nat), As = [.ref a, .int (nI x), .int (nI g)] ∧ ((oS sh a) ∧ (x < 4096) ∧ (g < 4096) ∧ (sL M a)) ∧ Q (none) (sh) (spM M a x g)
theorem cl86 {S : Nat → mv_Sp} (hS : S 86 = sp86) {sh : mv_Shp} {M : mv_Mem} {a : Nat} {x : Nat} {g : Nat} (p1 : oS sh a) (p2 : x < 4096) (p3 : g < 4096) (p4 : sL M a) {K : mv_Kt} {pc : Nat} {L : mv_Loc} {st : List Value} {cc_ ss_ : Nat} : mv_kal S 86 [.ref a, .int (nI x), .int (nI g)] sh M K pc L st cc_ ss_ = K pc L ((none : Option Value).toList ++ st) (sh) (spM M a x g) cc_ ss_ := by
  refine q_kal (fun F => q_cali (fun Q => ?_))
  rw [hS]
  constructor
  · rintro ⟨a', x', g', hE, ⟨zp1, zp2, zp3, zp4⟩, hQ⟩
    simp only [List.cons.injEq, Value.ref.injEq, Value.int.injEq, Value.long.injEq, and_true, true_and] at hE
    obtain ⟨rfl, e_x, e_g⟩ := hE
    have z_x := nI_inj e_x (by omega) (by omega)
    subst z_x
    have z_g := nI_inj e_g (by omega) (by omega)
    subst z_g
    exact hQ
  · intro hQ
    exact ⟨a, x, g, rfl, ⟨p1, p2, p3, p4⟩, hQ⟩
theorem ct86 {S : Nat → mv_Sp} (h51 : S 51 = sp51) (h82 : S 82 = sp82) (h85 : S 85 = sp85) : ∀ As sh M P, sp86 As sh M P → (mv_al0 As).length ≤ 7 ∧ mr86 S P 0 (mv_ent As 7) [] sh M 0 0 := by
  rintro As sh M P ⟨a, x, g, rfl, ⟨p1, p2, p3, p4⟩, hQ⟩
  refine ⟨Nat.le_of_ble_eq_true rfl, ?_⟩
  show mr86 S P 0 [some (.ref a), some (.int (nI x)), some (.int (nI g)), none, none, none, none] [] sh M 0 0
  obtain ⟨l, hl, hL⟩ := p4.1
  unfold sL at p4
  rw [hL, q_cl (by omega)] at p4
  unfold spM at hQ
  rw [hL, q_cl (by omega)] at hQ
  simp (disch := first | assumption | omega) only [e86_0, e86_1, e86_4, e86_5, e86_6, e86_8, e86_9, q_gv0, q_gvs, q_isI1, q_isA1, q_hs0, q_hsn, q_hsi, q_hsr, q_hss, q_inc1, List.set_cons_zero, List.set_cons_succ, ↓reduceIte, q_ss0, q_ssi, q_ssr, q_nr0, q_nr10, q_nr11, q_tlS, q_tlN, q_cl, q_let, q_lef, q_ltt, q_ltf, q_eqt, q_eqf, q_add, q_mul, Nat.reduceAdd, Nat.reduceLeDiff, Nat.reduceEqDiff, eq_self, Nat.zero_le, Nat.le_refl, not_false_eq_true, not_true_eq_false, true_and, and_true, and_self, if_true, if_false, p1.g3, hL]
  exact lp86o h51 h82 h85 p1 hl 3 1 g M none rfl p4 hQ

/-! reaching, counting the rows -/
theorem sh_top : ∀ (q : Fin 4) (t : Fin 6), nI q.1 <<< (nI (2 * t.1) &&& 31) = nI (q.1 <<< (2 * t.1)) ∧ q.1 <<< (2 * t.1) < 4096 := by decide +kernel
theorem nI_orN (a b : Nat) : nI a ||| nI b = nI (a ||| b) := by
  apply Int32.toBitVec_inj.mp
  rw [Int32.toBitVec_or]
  exact (BitVec.ofNat_or (x := a) (y := b)).symm
theorem or_top {u v : Int32} (h : ∃ k, k < 4096 ∧ u = nI k) (h2 : ∃ k, k < 4096 ∧ v = nI k) : ∃ k, k < 4096 ∧ u ||| v = nI k := by
  obtain ⟨k, hk, rfl⟩ := h
  obtain ⟨j, hj, rfl⟩ := h2
  exact ⟨k ||| j, Nat.or_lt_two_pow (n := 12) hk hj, nI_orN k j⟩
theorem and_top (u : Int32) (t : Nat) (ht : t < 6) : ∃ k, k < 4096 ∧ (u &&& nI 3) <<< (nI (2 * t) &&& 31) = nI k := by
  obtain ⟨h, h4, he⟩ : ∃ h, h < 4 ∧ u &&& nI 3 = nI h := pk_andE _ (m := nI 3) 2 (by decide)
  rw [he]
  have := sh_top ⟨h, h4⟩ ⟨t, ht⟩
  exact ⟨_, this.2, this.1⟩
theorem stF_lt (M : mv_Mem) (a p w : Nat) : ∀ n, n ≤ 6 → ∃ k, k < 4096 ∧ stF M a p w n = nI k
  | 0, _ => ⟨0, by decide, rfl⟩
  | n + 1, h => by
    have ih := stF_lt M a p w n (by omega)
    unfold stF
    split
    · exact or_top ih (and_top _ _ (by omega))
    · exact ih
theorem sT_ts {M : mv_Mem} {a o nT : Nat} (h : sT M a) (hT : nT ≤ 6) : ∀ n, sT (tsF M a o nT n) a
  | 0 => h
  | n + 1 => by
    have h2 := sT_ts (o := o) h hT n
    unfold tsF
    intro i hi
    by_cases z : i = 2 * n + 1
    · subst z
      rw [q_upS]
      exact stF_lt _ _ _ _ _ hT
    · rw [q_upN (fun y => z y.2)]
      by_cases z : i = 2 * n
      · subst z
        rw [q_upS]
        exact stF_lt _ _ _ _ _ hT
      · rw [q_upN (fun y => z y.2)]
        exact h2 i hi
theorem fiM_in {M : mv_Mem} {a : Nat} {v : Int32} : ∀ n, ∀ i, i < n → fiM M a v n a i = v
  | 0, i, h => absurd h (by omega)
  | n + 1, i, h => by
    unfold fiM
    by_cases z : i = n
    · subst z; exact q_upS
    · rw [q_upN (fun y => z y.2)]
      exact fiM_in n i (by omega)
theorem sL_sl {M : mv_Mem} {a x : Nat} {v : Int32} (h : sT M a) (hx : x < 4096) : sL (slM M a x v) a := by
  unfold slM
  refine sL_en ⟨⟨0, by decide, q_upS⟩, fun i hi => ?_, fun i hi => ?_⟩ hx
  · rw [q_upS] at hi
    exact absurd hi (by rw [q_cl (by omega)]; omega)
  · rw [q_upO (by omega), fiM_out (by omega)]; exact h i hi
theorem sL_sp {M : mv_Mem} {a x g : Nat} (h : sL M a) : sL (spM M a x g) a := sL_sdO _ _ _ h
def rcL (a x : Nat) (y : Int32) : Nat → Nat → mv_Mem → mv_Mem
  | 0, _, M => M
  | n + 1, s, M => rcL a x y n (s + 1) (if y >>> (nI (s / 2) &&& 31) &&& nI 1 = nI 1 then spM M a x (adN 0 (M (a + 3) s).toNatClampNeg) else M)
theorem sL_rc {a x : Nat} {y : Int32} : ∀ n s (M : mv_Mem), sL M a → sL (rcL a x y n s M) a
  | 0, _, _, h => h
  | n + 1, s, M, h => by
    unfold rcL
    refine sL_rc n _ _ ?_
    split
    · exact sL_sp h
    · exact h
def rcM (M : mv_Mem) (a o x : Nat) (y : Int32) : mv_Mem := rcL a x y (2 * (M o 1).toNatClampNeg) 0 (slM (tsF M a o (M o 0).toNatClampNeg (M o 1).toNatClampNeg) a x (Int32.ofInt (-1)))
theorem lp87 {S : Nat → mv_Sp} (h84 : S 84 = sp84) (h86 : S 86 = sp86) {sh : mv_Shp} {P : mv_Post} {a o x N : Nat} {y : Int32} (p1 : oS sh a) (hx : x < 4096) (hN : N < 13) :
    ∀ n s (M : mv_Mem), s + n = N → sL M a → P none sh (rcL a x y n s M) →
      mr87 S P 16 [some (.ref a), some (.ref o), some (.int (nI x)), some (.int y), some (.int (nI N)), some (.int (nI s))] [] sh M 0 0
  | 0, s, M, h, hM, hQ => by
    obtain rfl : s = N := by omega
    rw [e87_16]
    simp (disch := first | assumption | omega) only [e87_0, e87_1, e87_2, e87_5, e87_7, e87_8, e87_9, e87_10, e87_13, e87_14, e87_18, e87_20, e87_23, e87_24, e87_26, e87_27, e87_28, e87_29, e87_30, e87_31, e87_32, e87_35, e87_36, e87_37, e87_38, e87_39, e87_41, e87_44, e87_47, e87_50, e87_53, q_gv0, q_gvs, q_isI1, q_isA1, q_hs0, q_hsn, q_hsi, q_hsr, q_hss, q_inc1, List.set_cons_zero, List.set_cons_succ, ↓reduceIte, q_ss0, q_ssi, q_ssr, q_nr0, q_nr10, q_nr11, q_tlS, q_tlN, q_cl, q_let, q_lef, q_ltt, q_ltf, q_eqt, q_eqf, q_add, q_mul, Nat.reduceAdd, Nat.reduceLeDiff, Nat.reduceEqDiff, eq_self, Nat.zero_le, Nat.le_refl, not_false_eq_true, not_true_eq_false, true_and, and_true, and_self, if_true, if_false]
    exact hQ
  | n + 1, s, M, h, hM, hQ => by
    obtain ⟨e, he, hE⟩ := hM.2.2 s (by omega)
    have b1 := adN_lt 0 e
    unfold rcL at hQ
    rw [hE, q_cl (by omega)] at hQ
    rw [e87_16]
    by_cases c : y >>> (nI (s / 2) &&& 31) &&& nI 1 = nI 1
    · rw [if_pos c] at hQ
      simp (disch := first | assumption | omega) only [e87_0, e87_1, e87_2, e87_5, e87_7, e87_8, e87_9, e87_10, e87_13, e87_14, e87_18, e87_20, e87_23, e87_24, e87_26, e87_27, e87_28, e87_29, e87_30, e87_31, e87_32, e87_35, e87_36, e87_37, e87_38, e87_39, e87_41, e87_44, e87_47, e87_50, e87_53, q_gv0, q_gvs, q_isI1, q_isA1, q_hs0, q_hsn, q_hsi, q_hsr, q_hss, q_inc1, List.set_cons_zero, List.set_cons_succ, ↓reduceIte, q_ss0, q_ssi, q_ssr, q_nr0, q_nr10, q_nr11, q_tlS, q_tlN, q_cl, q_let, q_lef, q_ltt, q_ltf, q_eqt, q_eqf, q_add, q_mul, Nat.reduceAdd, Nat.reduceLeDiff, Nat.reduceEqDiff, eq_self, Nat.zero_le, Nat.le_refl, not_false_eq_true, not_true_eq_false, true_and, and_true, and_self, if_true, if_false, p1.o, q_div, c, cl84 h84, hE, adT_N, cl86 h86]
      exact lp87 h84 h86 p1 hx hN n (s + 1) _ (by omega) (sL_sp hM) hQ
    · rw [if_neg c] at hQ
      simp (disch := first | assumption | omega) only [e87_0, e87_1, e87_2, e87_5, e87_7, e87_8, e87_9, e87_10, e87_13, e87_14, e87_18, e87_20, e87_23, e87_24, e87_26, e87_27, e87_28, e87_29, e87_30, e87_31, e87_32, e87_35, e87_36, e87_37, e87_38, e87_39, e87_41, e87_44, e87_47, e87_50, e87_53, q_gv0, q_gvs, q_isI1, q_isA1, q_hs0, q_hsn, q_hsi, q_hsr, q_hss, q_inc1, List.set_cons_zero, List.set_cons_succ, ↓reduceIte, q_ss0, q_ssi, q_ssr, q_nr0, q_nr10, q_nr11, q_tlS, q_tlN, q_cl, q_let, q_lef, q_ltt, q_ltf, q_eqt, q_eqf, q_add, q_mul, Nat.reduceAdd, Nat.reduceLeDiff, Nat.reduceEqDiff, eq_self, Nat.zero_le, Nat.le_refl, not_false_eq_true, not_true_eq_false, true_and, and_true, and_self, if_true, if_false, p1.o, q_div, c]
      exact lp87 h84 h86 p1 hx hN n (s + 1) _ (by omega) hM hQ
def sp87 : mv_Sp := fun As sh M Q => ∃ (a : Nat) (o : Nat) (x : Nat) (y : Int32), As = [.ref a, .ref o, .int (nI x), .int y] ∧ ((oS sh a) ∧ (oL sh o) ∧ (o + 6 < a) ∧ (gL M o) ∧ (x < 4096) ∧ (sT M a)) ∧ Q (none) (sh) (rcM M a o x y)
theorem cl87 {S : Nat → mv_Sp} (hS : S 87 = sp87) {sh : mv_Shp} {M : mv_Mem} {a : Nat} {o : Nat} {x : Nat} {y : Int32} (p1 : oS sh a) (p2 : oL sh o) (p3 : o + 6 < a) (p4 : gL M o) (p5 : x < 4096) (p6 : sT M a) {K : mv_Kt} {pc : Nat} {L : mv_Loc} {st : List Value} {cc_ ss_ : Nat} : mv_kal S 87 [.ref a, .ref o, .int (nI x), .int y] sh M K pc L st cc_ ss_ = K pc L ((none : Option Value).toList ++ st) (sh) (rcM M a o x y) cc_ ss_ := by
  refine q_kal (fun F => q_cali (fun Q => ?_))
  rw [hS]
  constructor
  · rintro ⟨a', o', x', y', hE, ⟨zp1, zp2, zp3, zp4, zp5, zp6⟩, hQ⟩
    simp only [List.cons.injEq, Value.ref.injEq, Value.int.injEq, Value.long.injEq, and_true, true_and] at hE
    obtain ⟨rfl, rfl, e_x, rfl⟩ := hE
    have z_x := nI_inj e_x (by omega) (by omega)
    subst z_x
    exact hQ
  · intro hQ
    exact ⟨a, o, x, y, rfl, ⟨p1, p2, p3, p4, p5, p6⟩, hQ⟩
theorem ct87 {S : Nat → mv_Sp} (h81 : S 81 = sp81) (h83 : S 83 = sp83) (h84 : S 84 = sp84) (h86 : S 86 = sp86) : ∀ As sh M P, sp87 As sh M P → (mv_al0 As).length ≤ 6 ∧ mr87 S P 0 (mv_ent As 6) [] sh M 0 0 := by
  rintro As sh M P ⟨a, o, x, y, rfl, ⟨p1, p2, p3, p4, p5, p6⟩, hQ⟩
  refine ⟨Nat.le_of_ble_eq_true rfl, ?_⟩
  show mr87 S P 0 [some (.ref a), some (.ref o), some (.int (nI x)), some (.int y), none, none] [] sh M 0 0
  obtain ⟨nT, h6, hT⟩ := p4.1
  obtain ⟨nP, h7, hP⟩ := p4.2.1
  have g0 := p4.1
  have g1 := p4.2.1
  have g4 := p4.2.2.2.2.1
  unfold rcM at hQ
  rw [hT, hP, q_cl (show nT < 2147483648 by omega), q_cl (show nP < 2147483648 by omega)] at hQ
  simp (disch := first | assumption | omega) only [e87_0, e87_1, e87_2, e87_5, e87_7, e87_8, e87_9, e87_10, e87_13, e87_14, q_gv0, q_gvs, q_isI1, q_isA1, q_hs0, q_hsn, q_hsi, q_hsr, q_hss, q_inc1, List.set_cons_zero, List.set_cons_succ, ↓reduceIte, q_ss0, q_ssi, q_ssr, q_nr0, q_nr10, q_nr11, q_tlS, q_tlN, q_cl, q_let, q_lef, q_ltt, q_ltf, q_eqt, q_eqf, q_add, q_mul, Nat.reduceAdd, Nat.reduceLeDiff, Nat.reduceEqDiff, eq_self, Nat.zero_le, Nat.le_refl, not_false_eq_true, not_true_eq_false, true_and, and_true, and_self, if_true, if_false, p1.o, cl81 h81, cl83 h83, hT, hP]
  exact lp87 h84 h86 p1 p5 (show 2 * nP < 13 by omega) (2 * nP) 0 _ (by omega) (sL_sl (sT_ts p6 h6 nP) p5) hQ
