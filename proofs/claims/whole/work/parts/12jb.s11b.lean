/-! the builder grown: once, in the class's constructor -/
theorem q_kln {sh : mv_Shp} {M : mv_Mem} {a t n : Nat} {K : mv_Kt} {pc : Nat} {L : mv_Loc} {st : List Value} {c s : Nat} (h : sh[a]? = some (.inl (t, n))) (ht : t < 3) : mv_kln sh M a K pc L st c s = K pc L (.int (nI n) :: st) sh M c s := by
  unfold mv_kln mv_nums
  rw [h]
  simp only [ht, true_and]
theorem q_kcpB {sh : mv_Shp} {M : mv_Mem} {a d n0 n1 sp dp n : Nat} {K : mv_Kt} {pc c s : Nat} {L : mv_Loc} {st : List Value} (h0 : sh[a]? = some (.inl (1, n0))) (h1 : sh[d]? = some (.inl (1, n1))) (b1 : sp + n ≤ n0) (b2 : dp + n ≤ n1) (b3 : n0 < 2147483648) (b4 : n1 < 2147483648) (hb : ∀ i, i < n → (M a (sp + i)).toInt8.toInt32 = M a (sp + i)) :
    mv_kcp sh M a (nI sp) d (nI dp) (nI n) K pc L st c s = (mv_ss st ≤ 8 ∧ K pc L st sh (mv_wr M d (va_cpy (M a) (M d) sp dp n)) c s) := by
  unfold mv_kcp mv_nums
  rw [h0]; dsimp only; rw [h1]; dsimp only
  rw [q_cl (a := sp) (by omega), q_cl (a := dp) (by omega), q_cl (a := n) (by omega)]
  apply propext
  constructor
  · rintro ⟨h, k⟩
    exact ⟨h.1, k⟩
  · rintro ⟨h, k⟩
    exact ⟨⟨h, rfl, Or.inr ⟨rfl, hb⟩, nI_pos (show sp < 2 ^ 31 by omega), nI_pos (show dp < 2 ^ 31 by omega), nI_pos (show n < 2 ^ 31 by omega), b1, b2⟩, k⟩
theorem kal_of {S : Nat → mv_Sp} {j : Nat} {As : List Value} {sh : mv_Shp} {M : mv_Mem} {K : mv_Kt} {pc : Nat} {L : mv_Loc} {st : List Value} {c s : Nat} (h : S j As sh M (fun v sh' M' => K pc L (v.toList ++ st) sh' M' c s)) : mv_kal S j As sh M K pc L st c s := ⟨_, h, fun _ _ _ z => z⟩
/-- the builder as it is begun: 16 letters' room -/
def oY (sh : mv_Shp) : Prop := sh[1]? = some (.inr (.inl (6, [some (.ref 2), none, none, none]))) ∧ sh[2]? = some (.inl (1, 16)) ∧ sh.length = 61
theorem oY.b0 {sh : mv_Shp} {M : mv_Mem} {K : mv_Kt} {pc : Nat} {L : mv_Loc} {st : List Value} {c s : Nat} (h : oY sh) : mv_kgf sh M 1 6 0 K pc L st c s = K pc L (.ref 2 :: st) sh M c s := by
  unfold mv_kgf mv_gf; rw [h.1]; simp
theorem oY.b1 {sh : mv_Shp} {M : mv_Mem} {K : mv_Kt} {pc : Nat} {L : mv_Loc} {st : List Value} {c s : Nat} (h : oY sh) : mv_kgf sh M 1 6 1 K pc L st c s = K pc L (.int (M 1 1) :: st) sh M c s := by
  unfold mv_kgf mv_gf; rw [h.1]; simp
theorem oY.o1 {sh : mv_Shp} (h : oY sh) : mv_isO sh (some (.ref 1)) 6 = True := by
  unfold mv_isO; dsimp only; rw [h.1]; simp
def gwA (sh : mv_Shp) : mv_Shp := sh ++ [.inl (1, 96)]
def gwS (sh : mv_Shp) : mv_Shp := (gwA sh).set 1 (.inr (.inl (6, [some (.ref 61), none, none, none])))
theorem gwA_lo {sh : mv_Shp} (h : sh.length = 61) {k : Nat} (hk : k < 61) : (gwA sh)[k]? = sh[k]? := List.getElem?_append_left (by omega)
theorem gwA_hi {sh : mv_Shp} (h : sh.length = 61) : (gwA sh)[61]? = some (.inl (1, 96)) := by
  unfold gwA
  rw [List.getElem?_append_right (by omega), h]
  rfl
/-- newLength, at the one place where it is asked -/
def sp9 : mv_Sp := fun As sh M Q => As = [.int (nI 16), .int (nI 80), .int (nI 18)] ∧ Q (some (.int (nI 96))) sh M
theorem cl9 {S : Nat → mv_Sp} (hS : S 9 = sp9) {sh : mv_Shp} {M : mv_Mem} {K : mv_Kt} {pc : Nat} {L : mv_Loc} {st : List Value} {c s : Nat} : mv_kal S 9 [.int (nI 16), .int (nI 80), .int (nI 18)] sh M K pc L st c s = K pc L ((some (.int (nI 96))).toList ++ st) sh M c s := by
  refine q_kal (fun F => q_cali (fun Q => ?_))
  rw [hS]
  exact ⟨fun h => h.2, fun h => ⟨rfl, h⟩⟩
def sp10 : mv_Sp := fun As sh M Q => As = [.ref 1, .int (nI 96)] ∧ oY sh ∧ M 1 1 = nI 0 ∧ Q (some (.int (nI 96))) sh M
theorem cl10 {S : Nat → mv_Sp} (hS : S 10 = sp10) {sh : mv_Shp} {M : mv_Mem} {K : mv_Kt} {pc : Nat} {L : mv_Loc} {st : List Value} {c s : Nat} (p1 : oY sh) (p2 : M 1 1 = nI 0) : mv_kal S 10 [.ref 1, .int (nI 96)] sh M K pc L st c s = K pc L ((some (.int (nI 96))).toList ++ st) sh M c s := by
  refine q_kal (fun F => q_cali (fun Q => ?_))
  rw [hS]
  exact ⟨fun h => h.2.2.2, fun h => ⟨rfl, p1, p2, h⟩⟩
theorem sl0 : nI 96 <<< (nI 0 &&& 31) = nI 96 ∧ nI 2 <<< (nI 0 &&& 31) = nI 2 := by decide +kernel
theorem ct10 {S : Nat → mv_Sp} (h9 : S 9 = sp9) : ∀ As sh M P, sp10 As sh M P → (mv_al0 As).length ≤ 6 ∧ mr10 S P 0 (mv_ent As 6) [] sh M 0 0 := by
  rintro As sh M P ⟨rfl, p1, p2, hQ⟩
  refine ⟨Nat.le_of_ble_eq_true rfl, ?_⟩
  show mr10 S P 0 [some (.ref 1), some (.int (nI 96)), none, none, none, none] [] sh M 0 0
  simp (disch := first | assumption | omega) only [e10_0, e10_1, e10_4, e10_5, e10_6, e10_7, e10_8, e10_11, e10_12, e10_13, e10_14, e10_15, e10_16, e10_18, e10_19, e10_21, e10_22, e10_23, e10_24, e10_27, e10_28, e10_29, e10_32, e10_34, e10_36, e10_38, e10_51, e10_53, e10_54, e10_57, e10_58, q_gv0, q_gvs, q_isI1, q_isA1, q_hs0, q_hsn, q_hsi, q_hsr, q_hss, q_inc1, List.set_cons_zero, List.set_cons_succ, ↓reduceIte, q_ss0, q_ssi, q_ssr, q_nr0, q_nr10, q_nr11, q_tlS, q_tlN, q_cl, q_let, q_lef, q_ltt, q_ltf, q_eqt, q_eqf, q_add, q_mul, Nat.reduceAdd, Nat.reduceLeDiff, Nat.reduceEqDiff, eq_self, Nat.zero_le, Nat.le_refl, not_false_eq_true, not_true_eq_false, true_and, and_true, and_self, if_true, if_false, p1.b0, p1.b1, p2, q_kln p1.2.1 (by decide), sl0.1, sl0.2, q_sub, cl9 h9, q_shr0, Nat.reduceSub]
  exact hQ
/-- copyOf, of the begun builder's letters -/
def sp11 : mv_Sp := fun As sh M Q => As = [.ref 2, .int (nI 96)] ∧ sh[2]? = some (.inl (1, 16)) ∧ sh.length = 61 ∧ (∀ i, i < 16 → M 2 i = nI 0) ∧ (∀ M', (∀ b, b < 61 → M' b = M b) → (∀ i, M' 61 i = nI 0) → Q (some (.ref 61)) (gwA sh) M')
theorem ct11 {S : Nat → mv_Sp} : ∀ As sh M P, sp11 As sh M P → (mv_al0 As).length ≤ 3 ∧ mr11 S P 0 (mv_ent As 3) [] sh M 0 0 := by
  rintro As sh M P ⟨rfl, p1, p2, p3, hQ⟩
  refine ⟨Nat.le_of_ble_eq_true rfl, ?_⟩
  show mr11 S P 0 [some (.ref 2), some (.int (nI 96)), none] [] sh M 0 0
  have e2 : (gwA sh)[2]? = some (.inl (1, 16)) := (gwA_lo p2 (by decide)).trans p1
  have e3 := gwA_hi p2
  have e4 : sh ++ [.inl (1, 96)] = gwA sh := rfl
  have n0 : nI 96 < 0 ↔ False := by decide
  have m2 : mv_wr M 61 (fun _ => 0) 2 = M 2 := q_wrO (by decide)
  have hb : ∀ i, i < 16 → (mv_wr M 61 (fun _ => 0) 2 (0 + i)).toInt8.toInt32 = mv_wr M 61 (fun _ => 0) 2 (0 + i) := by
    intro i hi
    rw [m2, Nat.zero_add, p3 i hi]
    decide
  have z := @q_kcpB (gwA sh) (mv_wr M 61 (fun _ => 0)) 2 61 16 96 0 0 16
  simp (disch := first | assumption | omega) only [e11_0, e11_1, e11_2, e11_3, e11_6, e11_14, e11_15, e11_17, e11_18, e11_19, e11_20, e11_21, e11_22, e11_23, e11_24, e11_25, e11_28, e11_31, e11_32, q_gv0, q_gvs, q_isI1, q_isA1, q_hs0, q_hsn, q_hsi, q_hsr, q_hss, q_inc1, List.set_cons_zero, List.set_cons_succ, ↓reduceIte, q_ss0, q_ssi, q_ssr, q_nr0, q_nr10, q_nr11, q_tlS, q_tlN, q_cl, q_let, q_lef, q_ltt, q_ltf, q_eqt, q_eqf, q_add, q_mul, Nat.reduceAdd, Nat.reduceLeDiff, Nat.reduceEqDiff, eq_self, Nat.zero_le, Nat.le_refl, not_false_eq_true, not_true_eq_false, true_and, and_true, and_self, if_true, if_false, q_kln p1 (by decide), p2, e4, n0, q_cl, Nat.reduceAdd, Nat.zero_add, Nat.reduceLT, q_kln e2 (by decide), z e2 e3 (by decide) (by decide) (by decide) (by decide) hb]
  refine hQ _ (fun b hb => ?_) (fun i => ?_)
  · rw [q_wrO (by omega), q_wrO (by omega)]
  · rw [q_wrS]
    unfold va_cpy
    split
    · rw [m2]
      exact p3 _ (by omega)
    · rw [q_wrS]; rfl
