/-! fewest, needs -/
theorem mkV_eq : ∀ (x : Nat), x < 4096 → ∀ s : Fin 16, mkV x s.1 = nI (x * 16 + s.1 + 1) := by
  intro x hx s
  have e1 : nI x <<< (nI 4 &&& 31) = nI (x * 2 ^ 4) := pk_shlN (nI 4 &&& 31) 4 (by decide) (by omega)
  have e2 : x * 2 ^ 4 ||| s.1 = x * 16 + s.1 := by
    rw [Nat.mul_comm x, ← Nat.two_pow_add_eq_or_of_lt (show s.1 < 2 ^ 4 from s.2)]
  unfold mkV
  rw [e1, nI_orN, e2, q_add]
  exact congrArg nI (by omega)
/-- every mark is none, the start's, or tells whence and by what -/
def mkP (M : mv_Mem) (a : Nat) : Prop := ∀ x, x < 4096 → M (a + 2) x ≤ nI 0 ∨ ∃ y s, y < 4096 ∧ s < 16 ∧ M (a + 2) x = nI (y * 16 + s + 1)
theorem mkOk_of {M : mv_Mem} {a : Nat} (h : mkP M a) : mkOk M a := by
  intro x hx
  unfold cfF
  by_cases c : M (a + 2) x ≤ nI 0
  · rw [if_pos c]
    exact ⟨x, hx, rfl⟩
  · rw [if_neg c]
    rcases h x hx with h | ⟨y, s, hy, hs, h⟩
    · exact absurd h c
    · refine ⟨y, hy, ?_⟩
      rw [h, q_sub (by omega), pk_shrN (by omega) (nI 4 &&& 31) 4 (by decide)]
      congr 1
      omega
theorem mkP_en {M : mv_Mem} {a x : Nat} {v : Int32} (h : mkP M a) (hv : v ≤ nI 0 ∨ ∃ y s, y < 4096 ∧ s < 16 ∧ v = nI (y * 16 + s + 1)) : mkP (enM M a x v) a := by
  intro z hz
  unfold enM
  split
  · split
    · exact h z hz
    · rw [q_upO (by omega), q_upO (by omega)]
      by_cases e : z = x
      · subst e; rw [q_upS]; exact hv
      · rw [q_upN (fun y => e y.2)]; exact h z hz
  · exact h z hz
theorem mkP_sl {M : mv_Mem} {a x : Nat} : mkP (slM M a x (Int32.ofInt (-1))) a := by
  unfold slM
  refine mkP_en (fun z hz => Or.inl ?_) (Or.inl (by decide))
  rw [q_upO (by omega), fiM_in _ _ hz]
  decide
theorem mkP_skI {a x : Nat} (hx : x < 4096) : ∀ n s (M : mv_Mem), s + n < 17 → mkP M a → mkP (skI a x n s M) a
  | 0, _, _, _, h => h
  | n + 1, s, M, hs, h => mkP_skI hx n (s + 1) _ (by omega) (mkP_en h (Or.inr ⟨x, s, hx, by omega, mkV_eq x hx ⟨s, by omega⟩⟩))
theorem sk_ok {a o v N : Nat} (hN : N < 13) (ho : o + 6 < a) : ∀ n i (M : mv_Mem), i + n = 4096 → sL M a → mkP M a → mkP (skF a o v N n i M).2 a ∧ ((skF a o v N n i M).1 = Int32.ofInt (-1) ∨ ∃ k, k < 4096 ∧ (skF a o v N n i M).1 = nI k)
  | 0, i, M, _, _, h => ⟨h, Or.inl rfl⟩
  | n + 1, i, M, hi, hs, h => by
    unfold skF
    split
    · rename_i c
      obtain ⟨k, hk, hK⟩ := hs.2.1 i c
      split
      · exact ⟨h, Or.inr ⟨k, hk, hK⟩⟩
      · refine sk_ok hN ho n (i + 1) _ (by omega) (sL_skI _ _ _ hs) ?_
        rw [hK, q_cl (by omega)]
        exact mkP_skI hk _ _ _ (by omega) h
    · exact ⟨h, Or.inl rfl⟩
theorem skM_ok {M : mv_Mem} {a o x v : Nat} (ho : o + 6 < a) (hG : gL M o) (hT : sT M a) (hx : x < 4096) : mkOk (skM M a o x v).2 a ∧ ((skM M a o x v).1 = Int32.ofInt (-1) ∨ ∃ k, k < 4096 ∧ (skM M a o x v).1 = nI k) := by
  obtain ⟨nT, h6, hTt⟩ := hG.1
  obtain ⟨nP, h7, hP⟩ := hG.2.1
  unfold skM
  rw [hTt, hP, q_cl (show nT < 2147483648 by omega), q_cl (show nP < 2147483648 by omega)]
  have := sk_ok (a := a) (o := o) (v := v) (N := 2 * nP) (by omega) ho 4096 0 _ rfl (sL_sl (v := Int32.ofInt (-1)) (sT_ts (o := o) hT h6 nP) hx) mkP_sl
  exact ⟨mkOk_of this.1, this.2⟩
theorem wnF_le (M : mv_Mem) (a : Nat) : ∀ n x, wnF M a n x ≤ n
  | 0, _ => Nat.le_refl _
  | n + 1, x => by
    unfold wnF
    split
    · omega
    · have := wnF_le M a n (cfF M a x).toNatClampNeg
      omega
/-- the answer of fewest, over what was sought -/
def fwX (R : Int32 × mv_Mem) (y : Int32) : Int32 :=
  if R.1 = Int32.ofInt (-1) then Int32.ofInt (-4) else if y = Int32.ofInt (-1) then nI (wnF R.2 57 4096 R.1.toNatClampNeg)
  else if y < nI (wnF R.2 57 4096 R.1.toNatClampNeg) then nI (10 * (pcF R.2 57 (bkF R.2 57 (wnF R.2 57 4096 R.1.toNatClampNeg - 1 - y.toNatClampNeg) R.1.toNatClampNeg) / 2) + pcF R.2 57 (bkF R.2 57 (wnF R.2 57 4096 R.1.toNatClampNeg - 1 - y.toNatClampNeg) R.1.toNatClampNeg) % 2) else Int32.ofInt (-4)
theorem m1c (y : Int32) (h : ¬ y < Int32.ofInt (-1)) (h2 : ¬ y = Int32.ofInt (-1)) : ∃ k, k < 2147483648 ∧ y = nI k := by
  rcases i32_c y with c | c
  · exfalso
    rw [Int32.lt_iff_toInt_lt] at h c
    have e1 : (Int32.ofInt (-1)).toInt = -1 := by decide
    have e2 : (nI 0).toInt = 0 := by decide
    rw [e1] at h
    rw [e2] at c
    exact h2 (Int32.toInt_inj.mp (by rw [e1]; omega))
  · exact c
theorem m1a : (Int32.ofInt (-1) < nI 0) = True := by decide
theorem skM_out {M : mv_Mem} {a o x v b : Nat} (h : ¬ b = a) (h1 : ¬ b = a + 1) (h2 : ¬ b = a + 2) (h3 : ¬ b = a + 3) : (skM M a o x v).2 b = M b := by
  have i1 : ∀ x n s (M : mv_Mem), skI a x n s M b = M b := by
    intro x n
    induction n with
    | zero => intro s M; rfl
    | succ n ih => intro s M; unfold skI; rw [ih]; exact enM_out h h1 h2
  have i2 : ∀ N n i (M : mv_Mem), (skF a o v N n i M).2 b = M b := by
    intro N n
    induction n with
    | zero => intro i M; rfl
    | succ n ih =>
      intro i M
      unfold skF
      split
      · split
        · rfl
        · rw [ih]; exact i1 _ _ _ _
      · rfl
  unfold skM
  rw [i2, slM_out h h1 h2, tsF_out h3]
def sp103 : mv_Sp := fun As sh M Q => ∃ (x : Int32) (y : Int32), As = [.ref 0, .int x, .int y] ∧ ((oX sh) ∧ (gL M 3) ∧ (sT M 57) ∧ (∃ k, k < 4096 ∧ tpX M 18 = nI k)) ∧ Q (some (.int (if x < nI 0 then Int32.ofInt (-1) else if nI (10 ^ (M 3 0).toNatClampNeg) ≤ x then Int32.ofInt (-1) else if y < Int32.ofInt (-1) then Int32.ofInt (-1) else fwX (skM M 57 3 (tpX M 18).toNatClampNeg x.toNatClampNeg) y))) (sh) (if x < nI 0 then M else if nI (10 ^ (M 3 0).toNatClampNeg) ≤ x then M else if y < Int32.ofInt (-1) then M else (skM M 57 3 (tpX M 18).toNatClampNeg x.toNatClampNeg).2)
theorem cl103 {S : Nat → mv_Sp} (hS : S 103 = sp103) {sh : mv_Shp} {M : mv_Mem} {x : Int32} {y : Int32} (p1 : oX sh) (p2 : gL M 3) (p3 : sT M 57) (p4 : ∃ k, k < 4096 ∧ tpX M 18 = nI k) {K : mv_Kt} {pc : Nat} {L : mv_Loc} {st : List Value} {cc_ ss_ : Nat} : mv_kal S 103 [.ref 0, .int x, .int y] sh M K pc L st cc_ ss_ = K pc L ((some (.int (if x < nI 0 then Int32.ofInt (-1) else if nI (10 ^ (M 3 0).toNatClampNeg) ≤ x then Int32.ofInt (-1) else if y < Int32.ofInt (-1) then Int32.ofInt (-1) else fwX (skM M 57 3 (tpX M 18).toNatClampNeg x.toNatClampNeg) y)) : Option Value).toList ++ st) (sh) (if x < nI 0 then M else if nI (10 ^ (M 3 0).toNatClampNeg) ≤ x then M else if y < Int32.ofInt (-1) then M else (skM M 57 3 (tpX M 18).toNatClampNeg x.toNatClampNeg).2) cc_ ss_ := by
  refine q_kal (fun F => q_cali (fun Q => ?_))
  rw [hS]
  constructor
  · rintro ⟨x', y', hE, ⟨zp1, zp2, zp3, zp4⟩, hQ⟩
    simp only [List.cons.injEq, Value.ref.injEq, Value.int.injEq, Value.long.injEq, and_true, true_and] at hE
    obtain ⟨rfl, rfl⟩ := hE
    exact hQ
  · intro hQ
    exact ⟨x, y, rfl, ⟨p1, p2, p3, p4⟩, hQ⟩
theorem ct103 {S : Nat → mv_Sp} (h66 : S 66 = sp66) (h73 : S 73 = sp73) (h99 : S 99 = sp99) (h101 : S 101 = sp101) (h102 : S 102 = sp102) : ∀ As sh M P, sp103 As sh M P → (mv_al0 As).length ≤ 5 ∧ mr103 S P 0 (mv_ent As 5) [] sh M 0 0 := by
  rintro As sh M P ⟨x, y, rfl, ⟨p1, p2, p3, p4⟩, hQ⟩
  refine ⟨Nat.le_of_ble_eq_true rfl, ?_⟩
  show mr103 S P 0 [some (.ref 0), some (.int x), some (.int y), none, none] [] sh M 0 0
  obtain ⟨k, hk, hK⟩ := id p4
  have hl := p1.loom
  have hs := p1.sea
  have hc := p1.cloth
  have g0 := p2.1
  rw [hK, q_cl (show k < 2147483648 by omega)] at hQ
  rcases i32_c x with c1 | ⟨v, hv, rfl⟩
  · simp only [c1, if_true] at hQ
    simp (disch := first | assumption | omega) only [e103_0, e103_1, e103_4, e103_5, e103_8, e103_11, e103_12, e103_13, e103_16, e103_17, e103_18, e103_19, e103_22, e103_23, e103_26, e103_27, e103_30, e103_33, e103_34, e103_37, e103_38, e103_39, e103_42, e103_44, e103_45, e103_46, e103_49, e103_50, e103_53, e103_55, e103_56, e103_57, e103_60, e103_62, e103_63, e103_64, e103_66, e103_69, e103_70, e103_73, e103_74, e103_76, e103_77, e103_78, e103_79, e103_80, e103_83, e103_86, e103_88, q_gv0, q_gvs, q_isI1, q_isA1, q_hs0, q_hsn, q_hsi, q_hsr, q_hss, q_inc1, List.set_cons_zero, List.set_cons_succ, ↓reduceIte, q_ss0, q_ssi, q_ssr, q_nr0, q_nr10, q_nr11, q_tlS, q_tlN, q_cl, q_let, q_lef, q_ltt, q_ltf, q_eqt, q_eqf, q_add, q_mul, Nat.reduceAdd, Nat.reduceLeDiff, Nat.reduceEqDiff, eq_self, Nat.zero_le, Nat.le_refl, not_false_eq_true, not_true_eq_false, true_and, and_true, and_self, if_true, if_false, p1.g1, hl.o, cl73 h73, c1]
    exact hQ
  have c1 : (nI v < nI 0) = False := q_ltf (by omega) hv
  simp only [c1, if_false] at hQ
  by_cases c2 : nI (10 ^ (M 3 0).toNatClampNeg) ≤ nI v
  · rw [if_pos c2, if_pos c2] at hQ
    simp (disch := first | assumption | omega) only [e103_0, e103_1, e103_4, e103_5, e103_8, e103_11, e103_12, e103_13, e103_16, e103_17, e103_18, e103_19, e103_22, e103_23, e103_26, e103_27, e103_30, e103_33, e103_34, e103_37, e103_38, e103_39, e103_42, e103_44, e103_45, e103_46, e103_49, e103_50, e103_53, e103_55, e103_56, e103_57, e103_60, e103_62, e103_63, e103_64, e103_66, e103_69, e103_70, e103_73, e103_74, e103_76, e103_77, e103_78, e103_79, e103_80, e103_83, e103_86, e103_88, q_gv0, q_gvs, q_isI1, q_isA1, q_hs0, q_hsn, q_hsi, q_hsr, q_hss, q_inc1, List.set_cons_zero, List.set_cons_succ, ↓reduceIte, q_ss0, q_ssi, q_ssr, q_nr0, q_nr10, q_nr11, q_tlS, q_tlN, q_cl, q_let, q_lef, q_ltt, q_ltf, q_eqt, q_eqf, q_add, q_mul, Nat.reduceAdd, Nat.reduceLeDiff, Nat.reduceEqDiff, eq_self, Nat.zero_le, Nat.le_refl, not_false_eq_true, not_true_eq_false, true_and, and_true, and_self, if_true, if_false, p1.g1, hl.o, cl73 h73, c1, c2]
    exact hQ
  rw [if_neg c2, if_neg c2] at hQ
  by_cases c3 : y < Int32.ofInt (-1)
  · rw [if_pos c3, if_pos c3] at hQ
    have c4 : ¬ Int32.ofInt (-1) ≤ y := Int32.not_le.mpr c3
    simp (disch := first | assumption | omega) only [e103_0, e103_1, e103_4, e103_5, e103_8, e103_11, e103_12, e103_13, e103_16, e103_17, e103_18, e103_19, e103_22, e103_23, e103_26, e103_27, e103_30, e103_33, e103_34, e103_37, e103_38, e103_39, e103_42, e103_44, e103_45, e103_46, e103_49, e103_50, e103_53, e103_55, e103_56, e103_57, e103_60, e103_62, e103_63, e103_64, e103_66, e103_69, e103_70, e103_73, e103_74, e103_76, e103_77, e103_78, e103_79, e103_80, e103_83, e103_86, e103_88, q_gv0, q_gvs, q_isI1, q_isA1, q_hs0, q_hsn, q_hsi, q_hsr, q_hss, q_inc1, List.set_cons_zero, List.set_cons_succ, ↓reduceIte, q_ss0, q_ssi, q_ssr, q_nr0, q_nr10, q_nr11, q_tlS, q_tlN, q_cl, q_let, q_lef, q_ltt, q_ltf, q_eqt, q_eqf, q_add, q_mul, Nat.reduceAdd, Nat.reduceLeDiff, Nat.reduceEqDiff, eq_self, Nat.zero_le, Nat.le_refl, not_false_eq_true, not_true_eq_false, true_and, and_true, and_self, if_true, if_false, p1.g1, hl.o, cl73 h73, c1, c2, c4]
    exact hQ
  rw [if_neg c3, if_neg c3, q_cl hv] at hQ
  have c4 : Int32.ofInt (-1) ≤ y := Int32.not_lt.mp c3
  have ok := skM_ok (v := v) (show 3 + 6 < 57 by decide) p2 p3 hk
  have b39 : 3 + 6 < 57 := by decide
  simp (disch := first | assumption | omega) only [e103_0, e103_1, e103_4, e103_5, e103_8, e103_11, e103_12, e103_13, e103_18, e103_19, e103_22, e103_23, e103_26, e103_27, e103_30, e103_33, e103_34, e103_37, q_gv0, q_gvs, q_isI1, q_isA1, q_hs0, q_hsn, q_hsi, q_hsr, q_hss, q_inc1, List.set_cons_zero, List.set_cons_succ, ↓reduceIte, q_ss0, q_ssi, q_ssr, q_nr0, q_nr10, q_nr11, q_tlS, q_tlN, q_cl, q_let, q_lef, q_ltt, q_ltf, q_eqt, q_eqf, q_add, q_mul, Nat.reduceAdd, Nat.reduceLeDiff, Nat.reduceEqDiff, eq_self, Nat.zero_le, Nat.le_refl, not_false_eq_true, not_true_eq_false, true_and, and_true, and_self, if_true, if_false, p1.g1, p1.g3, p1.g12, hl.o, hs.o, hc.o, cl73 h73, c1, c2, c4, cr66 h66, hK, cl99 h99]
  generalize skM M 57 3 k v = R at hQ ok ⊢
  obtain ⟨r1, r2⟩ := R
  obtain ⟨ok1, ok2⟩ := ok
  dsimp only at hQ ok1 ok2 ⊢
  unfold fwX at hQ
  dsimp only at hQ
  rcases ok2 with rfl | ⟨q, hq, rfl⟩
  · rw [if_pos rfl] at hQ
    have mm : (nI 0 ≤ Int32.ofInt (-1)) = False := q_m1
    simp (disch := first | assumption | omega) only [e103_0, e103_1, e103_4, e103_5, e103_8, e103_11, e103_12, e103_13, e103_16, e103_17, e103_18, e103_19, e103_22, e103_23, e103_26, e103_27, e103_30, e103_33, e103_34, e103_37, e103_38, e103_39, e103_42, e103_44, e103_45, e103_46, e103_49, e103_50, e103_53, e103_55, e103_56, e103_57, e103_60, e103_62, e103_63, e103_64, e103_66, e103_69, e103_70, e103_73, e103_74, e103_76, e103_77, e103_78, e103_79, e103_80, e103_83, e103_86, e103_88, q_gv0, q_gvs, q_isI1, q_isA1, q_hs0, q_hsn, q_hsi, q_hsr, q_hss, q_inc1, List.set_cons_zero, List.set_cons_succ, ↓reduceIte, q_ss0, q_ssi, q_ssr, q_nr0, q_nr10, q_nr11, q_tlS, q_tlN, q_cl, q_let, q_lef, q_ltt, q_ltf, q_eqt, q_eqf, q_add, q_mul, Nat.reduceAdd, Nat.reduceLeDiff, Nat.reduceEqDiff, eq_self, Nat.zero_le, Nat.le_refl, not_false_eq_true, not_true_eq_false, true_and, and_true, and_self, if_true, if_false, mm]
    exact hQ
  have q1 : ¬ nI q = Int32.ofInt (-1) := fun z => by
    have := q_let (Nat.zero_le q) (show q < 2147483648 by omega)
    rw [z, q_m1] at this
    exact this.symm ▸ trivial
  rw [if_neg q1, q_cl (show q < 2147483648 by omega)] at hQ
  have w1 := wnF_le r2 57 4096 q
  by_cases c5 : y = Int32.ofInt (-1)
  · rw [if_pos c5] at hQ
    simp (disch := first | assumption | omega) only [e103_0, e103_1, e103_4, e103_5, e103_8, e103_11, e103_12, e103_13, e103_16, e103_17, e103_18, e103_19, e103_22, e103_23, e103_26, e103_27, e103_30, e103_33, e103_34, e103_37, e103_38, e103_39, e103_42, e103_44, e103_45, e103_46, e103_49, e103_50, e103_53, e103_55, e103_56, e103_57, e103_60, e103_62, e103_63, e103_64, e103_66, e103_69, e103_70, e103_73, e103_74, e103_76, e103_77, e103_78, e103_79, e103_80, e103_83, e103_86, e103_88, q_gv0, q_gvs, q_isI1, q_isA1, q_hs0, q_hsn, q_hsi, q_hsr, q_hss, q_inc1, List.set_cons_zero, List.set_cons_succ, ↓reduceIte, q_ss0, q_ssi, q_ssr, q_nr0, q_nr10, q_nr11, q_tlS, q_tlN, q_cl, q_let, q_lef, q_ltt, q_ltf, q_eqt, q_eqf, q_add, q_mul, Nat.reduceAdd, Nat.reduceLeDiff, Nat.reduceEqDiff, eq_self, Nat.zero_le, Nat.le_refl, not_false_eq_true, not_true_eq_false, true_and, and_true, and_self, if_true, if_false, p1.g12, hs.o, cl101 h101, c5]
    exact hQ
  rw [if_neg c5] at hQ
  obtain ⟨j, hj, rfl⟩ := m1c y c3 c5
  rw [q_cl hj] at hQ
  by_cases c6 : j < wnF r2 57 4096 q
  · rw [if_pos ((nI_ltI hj (by omega)).mpr c6)] at hQ
    have w2 : wnF r2 57 4096 q - 1 - j < 4097 := by omega
    have w3 : 1 ≤ wnF r2 57 4096 q := by omega
    have w4 : j ≤ wnF r2 57 4096 q - 1 := by omega
    simp (disch := first | assumption | omega) only [e103_0, e103_1, e103_4, e103_5, e103_8, e103_11, e103_12, e103_13, e103_16, e103_17, e103_18, e103_19, e103_22, e103_23, e103_26, e103_27, e103_30, e103_33, e103_34, e103_37, e103_38, e103_39, e103_42, e103_44, e103_45, e103_46, e103_49, e103_50, e103_53, e103_55, e103_56, e103_57, e103_60, e103_62, e103_63, e103_64, e103_66, e103_69, e103_70, e103_73, e103_74, e103_76, e103_77, e103_78, e103_79, e103_80, e103_83, e103_86, e103_88, q_gv0, q_gvs, q_isI1, q_isA1, q_hs0, q_hsn, q_hsi, q_hsr, q_hss, q_inc1, List.set_cons_zero, List.set_cons_succ, ↓reduceIte, q_ss0, q_ssi, q_ssr, q_nr0, q_nr10, q_nr11, q_tlS, q_tlN, q_cl, q_let, q_lef, q_ltt, q_ltf, q_eqt, q_eqf, q_add, q_mul, Nat.reduceAdd, Nat.reduceLeDiff, Nat.reduceEqDiff, eq_self, Nat.zero_le, Nat.le_refl, not_false_eq_true, not_true_eq_false, true_and, and_true, and_self, if_true, if_false, p1.g12, hs.o, cl101 h101, cl102 h102, c5, q_sub]
    exact hQ
  · rw [if_neg (fun z => c6 ((nI_ltI hj (by omega)).mp z))] at hQ
    simp (disch := first | assumption | omega) only [e103_0, e103_1, e103_4, e103_5, e103_8, e103_11, e103_12, e103_13, e103_16, e103_17, e103_18, e103_19, e103_22, e103_23, e103_26, e103_27, e103_30, e103_33, e103_34, e103_37, e103_38, e103_39, e103_42, e103_44, e103_45, e103_46, e103_49, e103_50, e103_53, e103_55, e103_56, e103_57, e103_60, e103_62, e103_63, e103_64, e103_66, e103_69, e103_70, e103_73, e103_74, e103_76, e103_77, e103_78, e103_79, e103_80, e103_83, e103_86, e103_88, q_gv0, q_gvs, q_isI1, q_isA1, q_hs0, q_hsn, q_hsi, q_hsr, q_hss, q_inc1, List.set_cons_zero, List.set_cons_succ, ↓reduceIte, q_ss0, q_ssi, q_ssr, q_nr0, q_nr10, q_nr11, q_tlS, q_tlN, q_cl, q_let, q_lef, q_ltt, q_ltf, q_eqt, q_eqf, q_add, q_mul, Nat.reduceAdd, Nat.reduceLeDiff, Nat.reduceEqDiff, eq_self, Nat.zero_le, Nat.le_refl, not_false_eq_true, not_true_eq_false, true_and, and_true, and_self, if_true, if_false, p1.g12, hs.o, cl101 h101, c5]
    exact hQ
/-- how many bits a set of packs has -/
def btN (k : Nat) : Nat := k % 2 + k / 2 % 2 + k / 4 % 2 + k / 8 % 2 + k / 16 % 2 + k / 32 % 2
theorem btN_lt (k : Nat) : btN k < 7 := by unfold btN; omega
def rhB (M : mv_Mem) (x j v : Nat) : Nat := rhF (rcM M 57 3 x (nI j)) 57 3 v (rcM M 57 3 x (nI j) 57 3).toNatClampNeg 0
/-- over the sets from j on, of s bits: found, which, the memory -/
def ndI (x v s : Nat) : Nat → Nat → mv_Mem → Nat × Nat × mv_Mem
  | 0, j, M => (0, j, M)
  | n + 1, j, M => if btN j = s then if rhB M x j v = 1 then (1, j, rcM M 57 3 x (nI j)) else ndI x v s n (j + 1) (rcM M 57 3 x (nI j)) else ndI x v s n (j + 1) M
def ndO (x v p : Nat) : Nat → Nat → mv_Mem → Int32 × mv_Mem
  | 0, _, M => (Int32.ofInt (-4), M)
  | n + 1, s, M => if (ndI x v s (2 ^ p) 0 M).1 = 1 then (nI (ndI x v s (2 ^ p) 0 M).2.1, (ndI x v s (2 ^ p) 0 M).2.2) else ndO x v p n (s + 1) (ndI x v s (2 ^ p) 0 M).2.2
theorem rhF_01 (M : mv_Mem) (a o v : Nat) : ∀ n i, rhF M a o v n i = 0 ∨ rhF M a o v n i = 1
  | 0, _ => Or.inl rfl
  | n + 1, i => by
    unfold rhF
    split
    · exact Or.inr rfl
    · exact rhF_01 M a o v n (i + 1)
theorem ndI_01 (x v s : Nat) : ∀ n j M, (ndI x v s n j M).1 = 0 ∨ (ndI x v s n j M).1 = 1
  | 0, _, _ => Or.inl rfl
  | n + 1, j, M => by
    unfold ndI
    split
    · split
      · exact Or.inr rfl
      · exact ndI_01 x v s n _ _
    · exact ndI_01 x v s n _ _
theorem allP : ∀ p : Fin 7, (nI 1 <<< (nI p.1 &&& 31)) - nI 1 = nI (2 ^ p.1 - 1) ∧ 2 ^ p.1 ≤ 64 := by decide +kernel
theorem cr117 {S : Nat → mv_Sp} (h : S 117 = sp117) {sh : mv_Shp} {M : mv_Mem} {k : Nat} {K : mv_Kt} {pc : Nat} {L : mv_Loc} {st : List Value} {c s : Nat} (hk : k < 64) :
    mv_kal S 117 [.int (nI k)] sh M K pc L st c s = K pc L ((some (.int (nI (btN k)))).toList ++ st) sh M c s := by
  rw [cl117 h trivial, bc64 ⟨k, hk⟩]; rfl
theorem cr116 {S : Nat → mv_Sp} (h : S 116 = sp116) {sh : mv_Shp} {M : mv_Mem} {x j v : Nat} {K : mv_Kt} {pc : Nat} {L : mv_Loc} {st : List Value} {c s : Nat} (p1 : oS sh 57) (p2 : oL sh 3) (p4 : gL M 3) (p5 : x < 4096) (p6 : sT M 57) (p7 : v < 2147483648) :
    mv_kal S 116 [.ref 57, .ref 3, .int (nI x), .int (nI j), .int (nI v)] sh M K pc L st c s = K pc L ((some (.int (nI (rhB M x j v)))).toList ++ st) sh (rcM M 57 3 x (nI j)) c s := cl116 h p1 p2 (by decide) p4 p5 p6 p7
theorem rcM_3 {M : mv_Mem} {x : Nat} {y : Int32} {b : Nat} (h : b < 57) : rcM M 57 3 x y b = M b := rcM_out (by omega) (by omega) (by omega) (by omega)
theorem lp118i {S : Nat → mv_Sp} (h72 : S 72 = sp72) (h116 : S 116 = sp116) (h117 : S 117 = sp117) {sh : mv_Shp} {P : mv_Post} {x v s p : Nat} (p1 : oX sh) (hx : x < 4096) (hv : v < 2147483648) (hs : s < 7) (hp : p < 7)
    (kont : ∀ M j, gL M 3 → sT M 57 → M 3 1 = nI p → mr118 S P 105 [some (.ref 0), some (.int (nI v)), some (.int (nI x)), some (.int (nI s)), j] [] sh M 0 0 → True) :
    ∀ n j (M : mv_Mem), j + n = 2 ^ p → gL M 3 → sT M 57 → M 3 1 = nI p →
      ((ndI x v s n j M).1 = 1 → P (some (.int (nI (ndI x v s n j M).2.1))) sh (ndI x v s n j M).2.2) →
      ((ndI x v s n j M).1 = 0 → ∀ z, gL (ndI x v s n j M).2.2 3 → sT (ndI x v s n j M).2.2 57 → (ndI x v s n j M).2.2 3 1 = nI p → mr118 S P 105 [some (.ref 0), some (.int (nI v)), some (.int (nI x)), some (.int (nI s)), z] [] sh (ndI x v s n j M).2.2 0 0) →
      mr118 S P 60 [some (.ref 0), some (.int (nI v)), some (.int (nI x)), some (.int (nI s)), some (.int (nI j))] [] sh M 0 0
  | 0, j, M, h, hG, hT, hP, k1, k0 => by
    obtain rfl : j = 2 ^ p := by omega
    have ap := allP ⟨p, hp⟩
    have ap1 : (nI 1 <<< (nI p &&& 31)) - nI 1 = nI (2 ^ p - 1) := ap.1
    have ap2 : 2 ^ p ≤ 64 := ap.2
    have ap3 : 0 < 2 ^ p := Nat.two_pow_pos p
    rw [e118_60]
    simp (disch := first | assumption | omega) only [e118_0, e118_1, e118_4, e118_5, e118_8, e118_11, e118_12, e118_13, e118_14, e118_17, e118_20, e118_21, e118_22, e118_25, e118_26, e118_29, e118_30, e118_31, e118_34, e118_35, e118_38, e118_41, e118_43, e118_44, e118_45, e118_46, e118_47, e118_48, e118_51, e118_54, e118_57, e118_58, e118_62, e118_63, e118_66, e118_69, e118_71, e118_74, e118_75, e118_78, e118_79, e118_82, e118_83, e118_86, e118_87, e118_89, e118_90, e118_93, e118_96, e118_98, e118_99, e118_102, e118_108, e118_111, e118_113, q_gv0, q_gvs, q_isI1, q_isA1, q_hs0, q_hsn, q_hsi, q_hsr, q_hss, q_inc1, List.set_cons_zero, List.set_cons_succ, ↓reduceIte, q_ss0, q_ssi, q_ssr, q_nr0, q_nr10, q_nr11, q_tlS, q_tlN, q_cl, q_let, q_lef, q_ltt, q_ltf, q_eqt, q_eqf, q_add, q_mul, Nat.reduceAdd, Nat.reduceLeDiff, Nat.reduceEqDiff, eq_self, Nat.zero_le, Nat.le_refl, not_false_eq_true, not_true_eq_false, true_and, and_true, and_self, if_true, if_false, p1.o, cl72 h72, hP, ap1]
    exact k0 rfl _ hG hT hP
  | n + 1, j, M, h, hG, hT, hP, k1, k0 => by
    have ap := allP ⟨p, hp⟩
    have ap1 : (nI 1 <<< (nI p &&& 31)) - nI 1 = nI (2 ^ p - 1) := ap.1
    have ap2 : 2 ^ p ≤ 64 := ap.2
    have j64 : j < 64 := by omega
    have hb := btN_lt j
    have hS := p1.sea
    have hl := p1.loom
    have hi : rhB M x j v = 0 ∨ rhB M x j v = 1 := rhF_01 _ _ _ _ _ _
    have hG2 := gL_rc (x := x) (y := nI j) hG (show 3 + 6 < 57 by decide)
    have hT2 := (sL_rcM (y := nI j) hT hG hx).2.2
    have hP2 : rcM M 57 3 x (nI j) 3 1 = nI p := by rw [rcM_3 (by decide)]; exact hP
    unfold ndI at k1 k0
    rw [e118_60]
    by_cases c1 : btN j = s
    · rw [if_pos c1] at k1 k0
      rcases hi with c2 | c2
      · rw [if_neg (by rw [c2]; decide)] at k1 k0
        simp (disch := first | assumption | omega) only [e118_0, e118_1, e118_4, e118_5, e118_8, e118_11, e118_12, e118_13, e118_14, e118_17, e118_20, e118_21, e118_22, e118_25, e118_26, e118_29, e118_30, e118_31, e118_34, e118_35, e118_38, e118_41, e118_43, e118_44, e118_45, e118_46, e118_47, e118_48, e118_51, e118_54, e118_57, e118_58, e118_62, e118_63, e118_66, e118_69, e118_71, e118_74, e118_75, e118_78, e118_79, e118_82, e118_83, e118_86, e118_87, e118_89, e118_90, e118_93, e118_96, e118_98, e118_99, e118_102, e118_108, e118_111, e118_113, q_gv0, q_gvs, q_isI1, q_isA1, q_hs0, q_hsn, q_hsi, q_hsr, q_hss, q_inc1, List.set_cons_zero, List.set_cons_succ, ↓reduceIte, q_ss0, q_ssi, q_ssr, q_nr0, q_nr10, q_nr11, q_tlS, q_tlN, q_cl, q_let, q_lef, q_ltt, q_ltf, q_eqt, q_eqf, q_add, q_mul, Nat.reduceAdd, Nat.reduceLeDiff, Nat.reduceEqDiff, eq_self, Nat.zero_le, Nat.le_refl, not_false_eq_true, not_true_eq_false, true_and, and_true, and_self, if_true, if_false, p1.o, p1.g1, p1.g12, hS.o, cl72 h72, cr117 h117, cr116 h116, hP, ap1, c1, c2]
        exact lp118i h72 h116 h117 p1 hx hv hs hp kont n (j + 1) _ (by omega) hG2 hT2 hP2 k1 k0
      · rw [if_pos c2] at k1 k0
        simp (disch := first | assumption | omega) only [e118_0, e118_1, e118_4, e118_5, e118_8, e118_11, e118_12, e118_13, e118_14, e118_17, e118_20, e118_21, e118_22, e118_25, e118_26, e118_29, e118_30, e118_31, e118_34, e118_35, e118_38, e118_41, e118_43, e118_44, e118_45, e118_46, e118_47, e118_48, e118_51, e118_54, e118_57, e118_58, e118_62, e118_63, e118_66, e118_69, e118_71, e118_74, e118_75, e118_78, e118_79, e118_82, e118_83, e118_86, e118_87, e118_89, e118_90, e118_93, e118_96, e118_98, e118_99, e118_102, e118_108, e118_111, e118_113, q_gv0, q_gvs, q_isI1, q_isA1, q_hs0, q_hsn, q_hsi, q_hsr, q_hss, q_inc1, List.set_cons_zero, List.set_cons_succ, ↓reduceIte, q_ss0, q_ssi, q_ssr, q_nr0, q_nr10, q_nr11, q_tlS, q_tlN, q_cl, q_let, q_lef, q_ltt, q_ltf, q_eqt, q_eqf, q_add, q_mul, Nat.reduceAdd, Nat.reduceLeDiff, Nat.reduceEqDiff, eq_self, Nat.zero_le, Nat.le_refl, not_false_eq_true, not_true_eq_false, true_and, and_true, and_self, if_true, if_false, p1.o, p1.g1, p1.g12, hS.o, cl72 h72, cr117 h117, cr116 h116, hP, ap1, c1, c2]
        exact k1 rfl
    · rw [if_neg c1] at k1 k0
      simp (disch := first | assumption | omega) only [e118_0, e118_1, e118_4, e118_5, e118_8, e118_11, e118_12, e118_13, e118_14, e118_17, e118_20, e118_21, e118_22, e118_25, e118_26, e118_29, e118_30, e118_31, e118_34, e118_35, e118_38, e118_41, e118_43, e118_44, e118_45, e118_46, e118_47, e118_48, e118_51, e118_54, e118_57, e118_58, e118_62, e118_63, e118_66, e118_69, e118_71, e118_74, e118_75, e118_78, e118_79, e118_82, e118_83, e118_86, e118_87, e118_89, e118_90, e118_93, e118_96, e118_98, e118_99, e118_102, e118_108, e118_111, e118_113, q_gv0, q_gvs, q_isI1, q_isA1, q_hs0, q_hsn, q_hsi, q_hsr, q_hss, q_inc1, List.set_cons_zero, List.set_cons_succ, ↓reduceIte, q_ss0, q_ssi, q_ssr, q_nr0, q_nr10, q_nr11, q_tlS, q_tlN, q_cl, q_let, q_lef, q_ltt, q_ltf, q_eqt, q_eqf, q_add, q_mul, Nat.reduceAdd, Nat.reduceLeDiff, Nat.reduceEqDiff, eq_self, Nat.zero_le, Nat.le_refl, not_false_eq_true, not_true_eq_false, true_and, and_true, and_self, if_true, if_false, p1.o, cl72 h72, cr117 h117, hP, ap1, c1]
      exact lp118i h72 h116 h117 p1 hx hv hs hp kont n (j + 1) _ (by omega) hG hT hP k1 k0
theorem lp118o {S : Nat → mv_Sp} (h72 : S 72 = sp72) (h116 : S 116 = sp116) (h117 : S 117 = sp117) {sh : mv_Shp} {P : mv_Post} {x v p : Nat} (p1 : oX sh) (hx : x < 4096) (hv : v < 2147483648) (hp : p < 7) :
    ∀ n s (M : mv_Mem) z, s + n = p + 1 → gL M 3 → sT M 57 → M 3 1 = nI p → P (some (.int (ndO x v p n s M).1)) sh (ndO x v p n s M).2 →
      mr118 S P 46 [some (.ref 0), some (.int (nI v)), some (.int (nI x)), some (.int (nI s)), z] [] sh M 0 0
  | 0, s, M, z, h, hG, hT, hP, hQ => by
    obtain rfl : s = p + 1 := by omega
    have hl := p1.loom
    rw [e118_46]
    simp (disch := first | assumption | omega) only [e118_0, e118_1, e118_4, e118_5, e118_8, e118_11, e118_12, e118_13, e118_14, e118_17, e118_20, e118_21, e118_22, e118_25, e118_26, e118_29, e118_30, e118_31, e118_34, e118_35, e118_38, e118_41, e118_43, e118_44, e118_45, e118_47, e118_48, e118_51, e118_54, e118_57, e118_58, e118_62, e118_63, e118_66, e118_69, e118_71, e118_74, e118_75, e118_78, e118_79, e118_82, e118_83, e118_86, e118_87, e118_89, e118_90, e118_93, e118_96, e118_98, e118_99, e118_102, e118_105, e118_108, e118_111, e118_113, q_gv0, q_gvs, q_isI1, q_isA1, q_hs0, q_hsn, q_hsi, q_hsr, q_hss, q_inc1, List.set_cons_zero, List.set_cons_succ, ↓reduceIte, q_ss0, q_ssi, q_ssr, q_nr0, q_nr10, q_nr11, q_tlS, q_tlN, q_cl, q_let, q_lef, q_ltt, q_ltf, q_eqt, q_eqf, q_add, q_mul, Nat.reduceAdd, Nat.reduceLeDiff, Nat.reduceEqDiff, eq_self, Nat.zero_le, Nat.le_refl, not_false_eq_true, not_true_eq_false, true_and, and_true, and_self, if_true, if_false, p1.g1, hl.g1, hP]
    exact hQ
  | n + 1, s, M, z, h, hG, hT, hP, hQ => by
    have hl := p1.loom
    unfold ndO at hQ
    have d := ndI_01 x v s (2 ^ p) 0 M
    rw [e118_46]
    simp (disch := first | assumption | omega) only [e118_0, e118_1, e118_4, e118_5, e118_8, e118_11, e118_12, e118_13, e118_14, e118_17, e118_20, e118_21, e118_22, e118_25, e118_26, e118_29, e118_30, e118_31, e118_34, e118_35, e118_38, e118_41, e118_43, e118_44, e118_45, e118_47, e118_48, e118_51, e118_54, e118_57, e118_58, e118_62, e118_63, e118_66, e118_69, e118_71, e118_74, e118_75, e118_78, e118_79, e118_82, e118_83, e118_86, e118_87, e118_89, e118_90, e118_93, e118_96, e118_98, e118_99, e118_102, e118_105, e118_108, e118_111, e118_113, q_gv0, q_gvs, q_isI1, q_isA1, q_hs0, q_hsn, q_hsi, q_hsr, q_hss, q_inc1, List.set_cons_zero, List.set_cons_succ, ↓reduceIte, q_ss0, q_ssi, q_ssr, q_nr0, q_nr10, q_nr11, q_tlS, q_tlN, q_cl, q_let, q_lef, q_ltt, q_ltf, q_eqt, q_eqf, q_add, q_mul, Nat.reduceAdd, Nat.reduceLeDiff, Nat.reduceEqDiff, eq_self, Nat.zero_le, Nat.le_refl, not_false_eq_true, not_true_eq_false, true_and, and_true, and_self, if_true, if_false, p1.g1, hl.g1, hP]
    refine lp118i h72 h116 h117 p1 hx hv (show s < 7 by omega) hp (fun _ _ _ _ _ _ => trivial) (2 ^ p) 0 M (by omega) hG hT hP (fun e => ?_) (fun e z g t q => ?_)
    · rw [if_pos e] at hQ
      exact hQ
    · rw [if_neg (by rw [e]; decide)] at hQ
      simp (disch := first | assumption | omega) only [e118_105, e118_108, q_gv0, q_gvs, q_isI1, q_isA1, q_hs0, q_hsn, q_hsi, q_hsr, q_hss, q_inc1, List.set_cons_zero, List.set_cons_succ, ↓reduceIte, q_ss0, q_ssi, q_ssr, q_nr0, q_nr10, q_nr11, q_tlS, q_tlN, q_cl, q_let, q_lef, q_ltt, q_ltf, q_eqt, q_eqf, q_add, q_mul, Nat.reduceAdd, Nat.reduceLeDiff, Nat.reduceEqDiff, eq_self, Nat.zero_le, Nat.le_refl, not_false_eq_true, not_true_eq_false, true_and, and_true, and_self, if_true, if_false]
      exact lp118o h72 h116 h117 p1 hx hv hp n (s + 1) _ _ (by omega) g t q hQ
def ndX (M : mv_Mem) (x v : Nat) : Int32 × mv_Mem := if rhB M x (2 ^ (M 3 1).toNatClampNeg - 1) v = 1 then ndO x v (M 3 1).toNatClampNeg ((M 3 1).toNatClampNeg + 1) 0 (rcM M 57 3 x (nI (2 ^ (M 3 1).toNatClampNeg - 1))) else (Int32.ofInt (-4), rcM M 57 3 x (nI (2 ^ (M 3 1).toNatClampNeg - 1)))
def sp118 : mv_Sp := fun As sh M Q => ∃ (x : Int32), As = [.ref 0, .int x] ∧ ((oX sh) ∧ (gL M 3) ∧ (sT M 57) ∧ (∃ k, k < 4096 ∧ tpX M 18 = nI k)) ∧ Q (some (.int (if x < nI 0 then Int32.ofInt (-1) else if nI (10 ^ (M 3 0).toNatClampNeg) ≤ x then Int32.ofInt (-1) else (ndX M (tpX M 18).toNatClampNeg x.toNatClampNeg).1))) (sh) (if x < nI 0 then M else if nI (10 ^ (M 3 0).toNatClampNeg) ≤ x then M else (ndX M (tpX M 18).toNatClampNeg x.toNatClampNeg).2)
theorem cl118 {S : Nat → mv_Sp} (hS : S 118 = sp118) {sh : mv_Shp} {M : mv_Mem} {x : Int32} (p1 : oX sh) (p2 : gL M 3) (p3 : sT M 57) (p4 : ∃ k, k < 4096 ∧ tpX M 18 = nI k) {K : mv_Kt} {pc : Nat} {L : mv_Loc} {st : List Value} {cc_ ss_ : Nat} : mv_kal S 118 [.ref 0, .int x] sh M K pc L st cc_ ss_ = K pc L ((some (.int (if x < nI 0 then Int32.ofInt (-1) else if nI (10 ^ (M 3 0).toNatClampNeg) ≤ x then Int32.ofInt (-1) else (ndX M (tpX M 18).toNatClampNeg x.toNatClampNeg).1)) : Option Value).toList ++ st) (sh) (if x < nI 0 then M else if nI (10 ^ (M 3 0).toNatClampNeg) ≤ x then M else (ndX M (tpX M 18).toNatClampNeg x.toNatClampNeg).2) cc_ ss_ := by
  refine q_kal (fun F => q_cali (fun Q => ?_))
  rw [hS]
  constructor
  · rintro ⟨x', hE, ⟨zp1, zp2, zp3, zp4⟩, hQ⟩
    simp only [List.cons.injEq, Value.ref.injEq, Value.int.injEq, Value.long.injEq, and_true, true_and] at hE
    subst hE
    exact hQ
  · intro hQ
    exact ⟨x, rfl, ⟨p1, p2, p3, p4⟩, hQ⟩
theorem ct118 {S : Nat → mv_Sp} (h66 : S 66 = sp66) (h72 : S 72 = sp72) (h73 : S 73 = sp73) (h116 : S 116 = sp116) (h117 : S 117 = sp117) : ∀ As sh M P, sp118 As sh M P → (mv_al0 As).length ≤ 5 ∧ mr118 S P 0 (mv_ent As 5) [] sh M 0 0 := by
  rintro As sh M P ⟨x, rfl, ⟨p1, p2, p3, p4⟩, hQ⟩
  refine ⟨Nat.le_of_ble_eq_true rfl, ?_⟩
  show mr118 S P 0 [some (.ref 0), some (.int x), none, none, none] [] sh M 0 0
  obtain ⟨k, hk, hK⟩ := id p4
  have hl := p1.loom
  have hs := p1.sea
  have hc := p1.cloth
  have g0 := p2.1
  obtain ⟨p, hp, hP⟩ := p2.2.1
  rw [hK, q_cl (show k < 2147483648 by omega)] at hQ
  rcases i32_c x with c1 | ⟨v, hv, rfl⟩
  · simp only [c1, if_true] at hQ
    simp (disch := first | assumption | omega) only [e118_0, e118_1, e118_4, e118_5, e118_8, e118_11, e118_12, e118_13, e118_14, e118_17, e118_20, e118_21, e118_22, e118_25, e118_26, e118_29, e118_30, e118_31, e118_34, e118_35, e118_38, e118_41, e118_43, e118_44, e118_45, e118_46, e118_47, e118_48, e118_51, e118_54, e118_57, e118_58, e118_60, e118_62, e118_63, e118_66, e118_69, e118_71, e118_74, e118_75, e118_78, e118_79, e118_82, e118_83, e118_86, e118_87, e118_89, e118_90, e118_93, e118_96, e118_98, e118_99, e118_102, e118_105, e118_108, e118_111, e118_113, q_gv0, q_gvs, q_isI1, q_isA1, q_hs0, q_hsn, q_hsi, q_hsr, q_hss, q_inc1, List.set_cons_zero, List.set_cons_succ, ↓reduceIte, q_ss0, q_ssi, q_ssr, q_nr0, q_nr10, q_nr11, q_tlS, q_tlN, q_cl, q_let, q_lef, q_ltt, q_ltf, q_eqt, q_eqf, q_add, q_mul, Nat.reduceAdd, Nat.reduceLeDiff, Nat.reduceEqDiff, eq_self, Nat.zero_le, Nat.le_refl, not_false_eq_true, not_true_eq_false, true_and, and_true, and_self, if_true, if_false, p1.g1, hl.o, cl73 h73, c1]
    exact hQ
  have c1 : (nI v < nI 0) = False := q_ltf (by omega) hv
  simp only [c1, if_false] at hQ
  by_cases c2 : nI (10 ^ (M 3 0).toNatClampNeg) ≤ nI v
  · rw [if_pos c2, if_pos c2] at hQ
    simp (disch := first | assumption | omega) only [e118_0, e118_1, e118_4, e118_5, e118_8, e118_11, e118_12, e118_13, e118_14, e118_17, e118_20, e118_21, e118_22, e118_25, e118_26, e118_29, e118_30, e118_31, e118_34, e118_35, e118_38, e118_41, e118_43, e118_44, e118_45, e118_46, e118_47, e118_48, e118_51, e118_54, e118_57, e118_58, e118_60, e118_62, e118_63, e118_66, e118_69, e118_71, e118_74, e118_75, e118_78, e118_79, e118_82, e118_83, e118_86, e118_87, e118_89, e118_90, e118_93, e118_96, e118_98, e118_99, e118_102, e118_105, e118_108, e118_111, e118_113, q_gv0, q_gvs, q_isI1, q_isA1, q_hs0, q_hsn, q_hsi, q_hsr, q_hss, q_inc1, List.set_cons_zero, List.set_cons_succ, ↓reduceIte, q_ss0, q_ssi, q_ssr, q_nr0, q_nr10, q_nr11, q_tlS, q_tlN, q_cl, q_let, q_lef, q_ltt, q_ltf, q_eqt, q_eqf, q_add, q_mul, Nat.reduceAdd, Nat.reduceLeDiff, Nat.reduceEqDiff, eq_self, Nat.zero_le, Nat.le_refl, not_false_eq_true, not_true_eq_false, true_and, and_true, and_self, if_true, if_false, p1.g1, hl.o, cl73 h73, c1, c2]
    exact hQ
  rw [if_neg c2, if_neg c2, q_cl hv] at hQ
  unfold ndX at hQ
  rw [hP, q_cl (show p < 2147483648 by omega)] at hQ
  have ap := allP ⟨p, by omega⟩
  have ap1 : (nI 1 <<< (nI p &&& 31)) - nI 1 = nI (2 ^ p - 1) := ap.1
  have hi : rhB M k (2 ^ p - 1) v = 0 ∨ rhB M k (2 ^ p - 1) v = 1 := rhF_01 _ _ _ _ _ _
  have hG2 := gL_rc (x := k) (y := nI (2 ^ p - 1)) p2 (show 3 + 6 < 57 by decide)
  have hT2 := (sL_rcM (y := nI (2 ^ p - 1)) p3 p2 hk).2.2
  have hP2 : rcM M 57 3 k (nI (2 ^ p - 1)) 3 1 = nI p := by rw [rcM_3 (by decide)]; exact hP
  rcases hi with c3 | c3
  · rw [if_neg (by rw [c3]; decide)] at hQ
    simp (disch := first | assumption | omega) only [e118_0, e118_1, e118_4, e118_5, e118_8, e118_11, e118_12, e118_13, e118_14, e118_17, e118_20, e118_21, e118_22, e118_25, e118_26, e118_29, e118_30, e118_31, e118_34, e118_35, e118_38, e118_41, e118_43, e118_44, e118_45, e118_47, e118_48, e118_51, e118_54, e118_57, e118_58, e118_62, e118_63, e118_66, e118_69, e118_71, e118_74, e118_75, e118_78, e118_79, e118_82, e118_83, e118_86, e118_87, e118_89, e118_90, e118_93, e118_96, e118_98, e118_99, e118_102, e118_105, e118_108, e118_111, e118_113, q_gv0, q_gvs, q_isI1, q_isA1, q_hs0, q_hsn, q_hsi, q_hsr, q_hss, q_inc1, List.set_cons_zero, List.set_cons_succ, ↓reduceIte, q_ss0, q_ssi, q_ssr, q_nr0, q_nr10, q_nr11, q_tlS, q_tlN, q_cl, q_let, q_lef, q_ltt, q_ltf, q_eqt, q_eqf, q_add, q_mul, Nat.reduceAdd, Nat.reduceLeDiff, Nat.reduceEqDiff, eq_self, Nat.zero_le, Nat.le_refl, not_false_eq_true, not_true_eq_false, true_and, and_true, and_self, if_true, if_false, p1.o, p1.g1, p1.g3, p1.g12, hl.o, hs.o, hc.o, cl73 h73, cr66 h66, hK, cl72 h72, hP, ap1, cr116 h116, c1, c2, c3]
    exact hQ
  · rw [if_pos c3] at hQ
    simp (disch := first | assumption | omega) only [e118_0, e118_1, e118_4, e118_5, e118_8, e118_11, e118_12, e118_13, e118_14, e118_17, e118_20, e118_21, e118_22, e118_25, e118_26, e118_29, e118_30, e118_31, e118_34, e118_35, e118_38, e118_41, e118_43, e118_44, e118_45, e118_47, e118_48, e118_51, e118_54, e118_57, e118_58, e118_62, e118_63, e118_66, e118_69, e118_71, e118_74, e118_75, e118_78, e118_79, e118_82, e118_83, e118_86, e118_87, e118_89, e118_90, e118_93, e118_96, e118_98, e118_99, e118_102, e118_105, e118_108, e118_111, e118_113, q_gv0, q_gvs, q_isI1, q_isA1, q_hs0, q_hsn, q_hsi, q_hsr, q_hss, q_inc1, List.set_cons_zero, List.set_cons_succ, ↓reduceIte, q_ss0, q_ssi, q_ssr, q_nr0, q_nr10, q_nr11, q_tlS, q_tlN, q_cl, q_let, q_lef, q_ltt, q_ltf, q_eqt, q_eqf, q_add, q_mul, Nat.reduceAdd, Nat.reduceLeDiff, Nat.reduceEqDiff, eq_self, Nat.zero_le, Nat.le_refl, not_false_eq_true, not_true_eq_false, true_and, and_true, and_self, if_true, if_false, p1.o, p1.g1, p1.g3, p1.g12, hl.o, hs.o, hc.o, cl73 h73, cr66 h66, hK, cl72 h72, hP, ap1, cr116 h116, c1, c2, c3]
    exact lp118o h72 h116 h117 p1 hk hv (by omega) (p + 1) 0 _ _ (by omega) hG2 hT2 hP2 hQ
