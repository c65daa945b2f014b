/-! the model: a tablet, a pack, a twist, a draft told -/
/-- N is M but for what the reader writes -/
def rdE (M N : mv_Mem) : Prop := (∀ b, ¬ b = 0 → (b < 10 ∨ 14 < b) → N b = M b) ∧ (∀ j, ¬ j = 17 → ¬ j = 18 → ¬ j = 19 → ¬ j = 23 → ¬ j = 25 → ¬ j = 26 → N 0 j = M 0 j)
theorem rdE_r {M : mv_Mem} : rdE M M := ⟨fun _ _ _ => rfl, fun _ _ _ _ _ _ _ => rfl⟩
theorem rdE_t {M N O : mv_Mem} (h : rdE M N) (h2 : rdE N O) : rdE M O := ⟨fun b x y => (h2.1 b x y).trans (h.1 b x y), fun j a b c d e f => (h2.2 j a b c d e f).trans (h.2 j a b c d e f)⟩
theorem rdE_0 {M N : mv_Mem} {j : Nat} {v : Int32} (h : rdE M N) (hj : j = 17 ∨ j = 18 ∨ j = 19 ∨ j = 23 ∨ j = 25 ∨ j = 26) : rdE M (mv_up N 0 j v) :=
  ⟨fun b x y => by rw [q_upO x]; exact h.1 b x y, fun i a b c d e f => by rw [q_upN (by omega)]; exact h.2 i a b c d e f⟩
theorem rdE_a {M N : mv_Mem} {b j : Nat} {v : Int32} (h : rdE M N) (hb : 10 ≤ b ∧ b ≤ 14) : rdE M (mv_up N b j v) :=
  ⟨fun c x y => by rw [q_upO (by omega)]; exact h.1 c x y, fun i a b' c d e f => by rw [q_upO (by omega)]; exact h.2 i a b' c d e f⟩
theorem rdE_ly {M N : mv_Mem} (h : rdE M N) : ly N = ly M := ly_of (h.2 13 (by decide) (by decide) (by decide) (by decide) (by decide) (by decide)) (h.1 7 (by decide) (by decide))
theorem rdE_tY {M N : mv_Mem} (h : rdE M N) (t : tY M) : tY N := tY_of t (h.2 13 (by decide) (by decide) (by decide) (by decide) (by decide) (by decide)) (h.1 7 (by decide) (by decide))
section
variable {S : Nat → mv_Sp} {sh : mv_Shp} {N : mv_Mem} {T : Nat → Nat} {p c a b : Nat} {K : mv_Kt} {pc : Nat} {L : mv_Loc} {st : List Value} {cc ss : Nat}
theorem cr143 (h : S 143 = sp143) (p1 : oM sh) (t : tY N) (e : ly N = T) (q : N 0 17 = nI p) (hp : p < 1000) (h1 : c < 128) (h2 : 0 < c) :
    mv_kal S 143 [.ref 0, .int (nI c)] sh N K pc L st cc ss = K pc L ((some (.int (nI (if T p = c then 1 else 0)))).toList ++ st) sh (mv_up N 0 17 (nI (sgP T c p))) cc ss := by
  rw [cl143 h p1 t ⟨p, hp, q⟩ h1 h2, e, q, q_cl (by omega)]
theorem cr145 (h : S 145 = sp145) (p1 : oM sh) (t : tY N) (e : ly N = T) (q : N 0 17 = nI p) (hp : p < 1000) :
    mv_kal S 145 [.ref 0] sh N K pc L st cc ss = K pc L ((some (.int (nI (if fgF T p = 0 then 0 else 1)))).toList ++ st) sh N cc ss := by
  rw [cl145 h p1 t ⟨p, hp, q⟩, e, q, q_cl (by omega)]
theorem cr146 (h : S 146 = sp146) (p1 : oM sh) (t : tY N) (e : ly N = T) (q : N 0 17 = nI p) (hp : p < 900) (h1 : a < 100) (h2 : b < 100) :
    mv_kal S 146 [.ref 0, .int (nI a), .int (nI b)] sh N K pc L st cc ss = K pc L ((some (.int (nI (if nbF T p = 0 then 0 else inN (nI (nbF T p - 1)) (nI a) (nI b))))).toList ++ st) sh (mv_up (mv_up N 0 18 (nI (nbF T p - 1))) 0 17 (nI (nbP T p))) cc ss := by
  rw [cl146 h p1 t ⟨p, hp, q⟩ h1 h2]
  unfold nuM
  rw [e, q, q_cl (by omega)]
end
theorem inN_n {k a b : Nat} (hk : k < 2147483648) (ha : a < 2147483648) (hb : b < 2147483648) : inN (nI k) (nI a) (nI b) = if k < a then 0 else if b < k then 0 else 1 := by
  unfold inN
  simp only [nI_ltI hk ha, nI_ltI hb hk]
theorem nbY_P {M : mv_Mem} (h : tY M) (p : Nat) : nbP (ly M) p ≤ p + 2 ∧ (nbP (ly M) p = p ∨ nbP (ly M) p ≤ 201) := by
  unfold nbP
  by_cases c1 : fgF (ly M) p = 0
  · rw [if_pos c1]; omega
  rw [if_neg c1]
  have := (fgY_end h c1).1
  split <;> omega
/-- a tablet told, but for the sign behind it -/
def tcB (T : Nat → Nat) (p : Nat) : Nat := if nbF T p = 0 then 0 else if 4 < nbF T p then 0 else if ¬ T (nbP T p) = 44 then 0
  else if nbF T (nbP T p + 1) = 0 then 0 else if 2 < nbF T (nbP T p + 1) then 0 else if ¬ T (nbP T (nbP T p + 1)) = 44 then 0
  else if fgF T (tbU T p) = 0 then 0 else if fgF T (tbU T p + 1) = 0 then 0 else if fgF T (tbU T p + 1 + 1) = 0 then 0 else if fgF T (tbU T p + 1 + 1 + 1) = 0 then 0 else 1
theorem tbB_tc (T : Nat → Nat) (p : Nat) : tbB T p = if tcB T p = 1 then (if T (tbU T p + 1 + 1 + 1 + 1) = 59 then 1 else 0) else 0 := by
  unfold tbB tcB
  by_cases c1 : nbF T p = 0
  · rw [if_pos c1, if_pos c1]; rfl
  rw [if_neg c1, if_neg c1]
  by_cases c2 : 4 < nbF T p
  · rw [if_pos c2, if_pos c2]; rfl
  rw [if_neg c2, if_neg c2]
  by_cases c3 : ¬ T (nbP T p) = 44
  · rw [if_pos c3, if_pos c3]; rfl
  rw [if_neg c3, if_neg c3]
  by_cases c4 : nbF T (nbP T p + 1) = 0
  · rw [if_pos c4, if_pos c4]; rfl
  rw [if_neg c4, if_neg c4]
  by_cases c5 : 2 < nbF T (nbP T p + 1)
  · rw [if_pos c5, if_pos c5]; rfl
  rw [if_neg c5, if_neg c5]
  by_cases c6 : ¬ T (nbP T (nbP T p + 1)) = 44
  · rw [if_pos c6, if_pos c6]; rfl
  rw [if_neg c6, if_neg c6]
  by_cases d1 : fgF T (tbU T p) = 0
  · rw [if_pos d1, if_pos d1]; rfl
  rw [if_neg d1, if_neg d1]
  by_cases d2 : fgF T (tbU T p + 1) = 0
  · rw [if_pos d2, if_pos d2]; rfl
  rw [if_neg d2, if_neg d2]
  by_cases d3 : fgF T (tbU T p + 1 + 1) = 0
  · rw [if_pos d3, if_pos d3]; rfl
  rw [if_neg d3, if_neg d3]
  by_cases d4 : fgF T (tbU T p + 1 + 1 + 1) = 0
  · rw [if_pos d4, if_pos d4]; rfl
  rw [if_neg d4, if_neg d4]
  rfl
def tbE (M N : mv_Mem) (n kd s : Nat) (c : Nat → Nat) : Prop := N 0 19 = nI (n + 1) ∧ N 0 23 = M 0 23 ∧ N 0 25 = M 0 25 ∧ N 0 26 = M 0 26 ∧ N 10 n = nI kd ∧ (∀ t, ¬ t = n → N 10 t = M 10 t) ∧ N 11 n = nI s ∧ (∀ t, ¬ t = n → N 11 t = M 11 t) ∧
  (∀ h, h < 4 → N 12 (4 * n + h) = nI (c h)) ∧ (∀ j, j < 4 * n → N 12 j = M 12 j) ∧ N 13 = M 13 ∧ N 14 = M 14
def sp147 : mv_Sp := fun As sh M Q => ∃ p n, As = [.ref 0] ∧ oM sh ∧ tY M ∧ p < 202 ∧ M 0 17 = nI p ∧ n ≤ 6 ∧ M 0 19 = nI n ∧
  (tcB (ly M) p = 1 → ¬ n = 6 → ∀ N, rdE M N → N 0 17 = nI (tbU (ly M) p + 1 + 1 + 1 + 1) → tbE M N n (nbF (ly M) p - 1) (nbF (ly M) (nbP (ly M) p + 1) - 1) (fun h => fgF (ly M) (tbU (ly M) p + h) - 1) → Q (some (.int (nI 1))) sh N) ∧
  ((¬ tcB (ly M) p = 1 ∨ n = 6) → ∀ N, rdE M N → Q (some (.int (nI 0))) sh N)
theorem ct147 {S : Nat → mv_Sp} (h143 : S 143 = sp143) (h145 : S 145 = sp145) (h146 : S 146 = sp146) : ∀ As sh M P, sp147 As sh M P → (mv_al0 As).length ≤ 3 ∧ mr147 S P 0 (mv_ent As 3) [] sh M 0 0 := by
  rintro As sh M P ⟨p, n, rfl, p1, p2, hp, hP, hn, hN, hS, hF⟩
  refine ⟨Nat.le_of_ble_eq_true rfl, ?_⟩
  show mr147 S P 0 [some (.ref 0), none, none] [] sh M 0 0
  by_cases c0 : n = 6
  · subst c0
    simp (disch := first | assumption | omega) only [e147_0, e147_1, e147_4, e147_5, e147_6, e147_8, e147_11, e147_12, e147_13, e147_14, e147_17, e147_20, e147_21, e147_22, e147_23, e147_26, e147_27, e147_28, e147_31, e147_32, e147_33, e147_35, e147_38, e147_41, e147_42, e147_43, e147_44, e147_47, e147_50, e147_51, e147_52, e147_53, e147_56, e147_57, e147_58, e147_61, e147_62, e147_63, e147_65, e147_68, e147_71, e147_72, e147_73, e147_74, e147_75, e147_76, e147_77, e147_80, e147_81, e147_84, e147_87, e147_88, e147_89, e147_90, e147_93, e147_94, e147_95, e147_96, e147_97, e147_98, e147_99, e147_102, e147_103, e147_106, e147_107, e147_109, e147_110, e147_111, e147_112, e147_112r, e147_113, e147_116, e147_117, e147_118, e147_121, e147_124, e147_127, e147_128, e147_128r, e147_129, e147_132, e147_133, e147_134, e147_137, e147_138, q_gv0, q_gvs, q_isI1, q_isA1, q_hs0, q_hsn, q_hsi, q_hsr, q_hss, q_inc1, List.set_cons_zero, List.set_cons_succ, ↓reduceIte, q_ss0, q_ssi, q_ssr, q_nr0, q_nr10, q_nr11, q_tlS, q_tlN, q_cl, q_let, q_lef, q_ltt, q_ltf, q_eqt, q_eqf, q_add, q_mul, Nat.reduceAdd, Nat.reduceLeDiff, Nat.reduceEqDiff, eq_self, Nat.zero_le, Nat.le_refl, not_false_eq_true, not_true_eq_false, true_and, and_true, and_self, if_true, if_false, p1.g19, hN]
    exact hF (Or.inr rfl) M rdE_r
  obtain ⟨T, hT⟩ : ∃ T, ly M = T := ⟨_, rfl⟩
  have b1 : nbP T p ≤ p + 2 ∧ (nbP T p = p ∨ nbP T p ≤ 201) := by rw [← hT]; exact nbY_P p2 p
  have b2 : nbF T p ≤ 100 := nbF_le T p
  rw [hT] at hS hF
  have hF0 : tcB T p = 0 → ∀ N, rdE M N → P (some (.int (nI 0))) sh N := fun z => hF (Or.inl (by rw [z]; decide))
  clear hF
  simp (disch := first | assumption | omega) only [e147_0, e147_1, e147_4, e147_5, e147_6, e147_8, e147_11, e147_12, e147_13, e147_14, q_gv0, q_gvs, q_isI1, q_isA1, q_hs0, q_hsn, q_hsi, q_hsr, q_hss, q_inc1, List.set_cons_zero, List.set_cons_succ, ↓reduceIte, q_ss0, q_ssi, q_ssr, q_nr0, q_nr10, q_nr11, q_tlS, q_tlN, q_cl, q_let, q_lef, q_ltt, q_ltf, q_eqt, q_eqf, q_add, q_mul, Nat.reduceAdd, Nat.reduceLeDiff, Nat.reduceEqDiff, eq_self, Nat.zero_le, Nat.le_refl, not_false_eq_true, not_true_eq_false, true_and, and_true, and_self, if_true, if_false, p1.g19, p1.o, hN, cr146 h146 p1 p2 hT hP (show p < 900 by omega), inN_n, Nat.not_lt_zero]
  have r1 : rdE M (mv_up (mv_up M 0 18 (nI (nbF T p - 1))) 0 17 (nI (nbP T p))) := rdE_0 (rdE_0 rdE_r (by decide)) (by decide)
  by_cases c1 : nbF T p = 0
  · have z : tcB T p = 0 := by unfold tcB; rw [if_pos c1]
    simp (disch := first | assumption | omega) only [e147_17, e147_20, e147_21, q_gv0, q_gvs, q_isI1, q_isA1, q_hs0, q_hsn, q_hsi, q_hsr, q_hss, q_inc1, List.set_cons_zero, List.set_cons_succ, ↓reduceIte, q_ss0, q_ssi, q_ssr, q_nr0, q_nr10, q_nr11, q_tlS, q_tlN, q_cl, q_let, q_lef, q_ltt, q_ltf, q_eqt, q_eqf, q_add, q_mul, Nat.reduceAdd, Nat.reduceLeDiff, Nat.reduceEqDiff, eq_self, Nat.zero_le, Nat.le_refl, not_false_eq_true, not_true_eq_false, true_and, and_true, and_self, if_true, if_false, c1]
    rw [c1] at r1
    exact hF0 z _ r1
  by_cases c2 : 3 < nbF T p - 1
  · have z : tcB T p = 0 := by unfold tcB; rw [if_neg c1, if_pos (by omega)]
    simp (disch := first | assumption | omega) only [e147_17, e147_20, e147_21, q_gv0, q_gvs, q_isI1, q_isA1, q_hs0, q_hsn, q_hsi, q_hsr, q_hss, q_inc1, List.set_cons_zero, List.set_cons_succ, ↓reduceIte, q_ss0, q_ssi, q_ssr, q_nr0, q_nr10, q_nr11, q_tlS, q_tlN, q_cl, q_let, q_lef, q_ltt, q_ltf, q_eqt, q_eqf, q_add, q_mul, Nat.reduceAdd, Nat.reduceLeDiff, Nat.reduceEqDiff, eq_self, Nat.zero_le, Nat.le_refl, not_false_eq_true, not_true_eq_false, true_and, and_true, and_self, if_true, if_false, c1, c2]
    exact hF0 z _ r1
  have n6 : n < 6 := by omega
  have r2 : rdE M (mv_up (mv_up (mv_up M 0 18 (nI (nbF T p - 1))) 0 17 (nI (nbP T p))) 10 n (nI (nbF T p - 1))) := rdE_a r1 (by decide)
  have t2 := rdE_tY r2 p2
  have l2 := (rdE_ly r2).trans hT
  have f2 : mv_up (mv_up (mv_up M 0 18 (nI (nbF T p - 1))) 0 17 (nI (nbP T p))) 10 n (nI (nbF T p - 1)) 0 17 = nI (nbP T p) := by rw [q_upO (by decide), q_upS]
  simp (disch := first | assumption | omega) only [e147_17, e147_22, e147_23, e147_26, e147_27, e147_28, e147_31, e147_32, e147_33, e147_35, q_gv0, q_gvs, q_isI1, q_isA1, q_hs0, q_hsn, q_hsi, q_hsr, q_hss, q_inc1, List.set_cons_zero, List.set_cons_succ, ↓reduceIte, q_ss0, q_ssi, q_ssr, q_nr0, q_nr10, q_nr11, q_tlS, q_tlN, q_cl, q_let, q_lef, q_ltt, q_ltf, q_eqt, q_eqf, q_add, q_mul, Nat.reduceAdd, Nat.reduceLeDiff, Nat.reduceEqDiff, eq_self, Nat.zero_le, Nat.le_refl, not_false_eq_true, not_true_eq_false, true_and, and_true, and_self, if_true, if_false, c1, c2, p1.g20, p1.g18, p1.s10, p1.o, q_upN, q_upS, cr143 h143 p1 t2 l2 f2 (show nbP T p < 1000 by omega)]
  have x2 : ∀ j, ¬ j = 17 → ¬ j = 18 → mv_up (mv_up (mv_up M 0 18 (nI (nbF T p - 1))) 0 17 (nI (nbP T p))) 10 n (nI (nbF T p - 1)) 0 j = M 0 j := fun j h1 h2 => by rw [q_upO (by decide), q_upN (by omega), q_upN (by omega)]
  have y2 : ∀ c, ¬ c = 0 → ¬ c = 10 → mv_up (mv_up (mv_up M 0 18 (nI (nbF T p - 1))) 0 17 (nI (nbP T p))) 10 n (nI (nbF T p - 1)) c = M c := fun j h1 h2 => by rw [q_upO h2, q_upO h1, q_upO h1]
  have k2 : mv_up (mv_up (mv_up M 0 18 (nI (nbF T p - 1))) 0 17 (nI (nbP T p))) 10 n (nI (nbF T p - 1)) 10 n = nI (nbF T p - 1) := q_upS
  have k2' : ∀ t, ¬ t = n → mv_up (mv_up (mv_up M 0 18 (nI (nbF T p - 1))) 0 17 (nI (nbP T p))) 10 n (nI (nbF T p - 1)) 10 t = M 10 t := fun t ht => by rw [q_upN (fun z => ht z.2), q_upO (by decide), q_upO (by decide)]
  generalize mv_up (mv_up (mv_up M 0 18 (nI (nbF T p - 1))) 0 17 (nI (nbP T p))) 10 n (nI (nbF T p - 1)) = N2 at *
  clear r1
  by_cases c3 : T (nbP T p) = 44
  rotate_left
  · have z : tcB T p = 0 := by unfold tcB; rw [if_neg c1, if_neg (by omega), if_pos c3]
    simp (disch := first | assumption | omega) only [e147_38, e147_50, e147_51, q_gv0, q_gvs, q_isI1, q_isA1, q_hs0, q_hsn, q_hsi, q_hsr, q_hss, q_inc1, List.set_cons_zero, List.set_cons_succ, ↓reduceIte, q_ss0, q_ssi, q_ssr, q_nr0, q_nr10, q_nr11, q_tlS, q_tlN, q_cl, q_let, q_lef, q_ltt, q_ltf, q_eqt, q_eqf, q_add, q_mul, Nat.reduceAdd, Nat.reduceLeDiff, Nat.reduceEqDiff, eq_self, Nat.zero_le, Nat.le_refl, not_false_eq_true, not_true_eq_false, true_and, and_true, and_self, if_true, if_false, c3]
    exact hF0 z _ (rdE_0 r2 (by decide))
  have e3 : sgP T 44 (nbP T p) = nbP T p + 1 := if_pos c3
  rw [e3]
  have r3 := rdE_0 (j := 17) (v := nI (nbP T p + 1)) r2 (by decide)
  have t3 := rdE_tY r3 p2
  have l3 := (rdE_ly r3).trans hT
  have a3 : nbP T p < 200 := by
    rw [← hT] at c3 ⊢
    exact ly_end p2 (by rw [c3]; decide)
  have b3 : nbP T (nbP T p + 1) ≤ nbP T p + 1 + 2 ∧ (nbP T (nbP T p + 1) = nbP T p + 1 ∨ nbP T (nbP T p + 1) ≤ 201) := by rw [← hT]; exact nbY_P p2 _
  have b4 : nbF T (nbP T p + 1) ≤ 100 := nbF_le T _
  simp (disch := first | assumption | omega) only [e147_38, e147_41, e147_42, e147_43, e147_44, q_gv0, q_gvs, q_isI1, q_isA1, q_hs0, q_hsn, q_hsi, q_hsr, q_hss, q_inc1, List.set_cons_zero, List.set_cons_succ, ↓reduceIte, q_ss0, q_ssi, q_ssr, q_nr0, q_nr10, q_nr11, q_tlS, q_tlN, q_cl, q_let, q_lef, q_ltt, q_ltf, q_eqt, q_eqf, q_add, q_mul, Nat.reduceAdd, Nat.reduceLeDiff, Nat.reduceEqDiff, eq_self, Nat.zero_le, Nat.le_refl, not_false_eq_true, not_true_eq_false, true_and, and_true, and_self, if_true, if_false, c3, p1.o, cr146 h146 p1 t3 l3 q_upS (show nbP T p + 1 < 900 by omega), inN_n, Nat.not_lt_zero]
  have r4 : rdE M (mv_up (mv_up (mv_up N2 0 17 (nI (nbP T p + 1))) 0 18 (nI (nbF T (nbP T p + 1) - 1))) 0 17 (nI (nbP T (nbP T p + 1)))) := rdE_0 (rdE_0 r3 (by decide)) (by decide)
  by_cases c4 : nbF T (nbP T p + 1) = 0
  · have z : tcB T p = 0 := by unfold tcB; rw [if_neg c1, if_neg (by omega), if_neg (fun z => z c3), if_pos c4]
    simp (disch := first | assumption | omega) only [e147_47, e147_50, e147_51, q_gv0, q_gvs, q_isI1, q_isA1, q_hs0, q_hsn, q_hsi, q_hsr, q_hss, q_inc1, List.set_cons_zero, List.set_cons_succ, ↓reduceIte, q_ss0, q_ssi, q_ssr, q_nr0, q_nr10, q_nr11, q_tlS, q_tlN, q_cl, q_let, q_lef, q_ltt, q_ltf, q_eqt, q_eqf, q_add, q_mul, Nat.reduceAdd, Nat.reduceLeDiff, Nat.reduceEqDiff, eq_self, Nat.zero_le, Nat.le_refl, not_false_eq_true, not_true_eq_false, true_and, and_true, and_self, if_true, if_false, c4]
    rw [c4] at r4
    exact hF0 z _ r4
  by_cases c5 : 1 < nbF T (nbP T p + 1) - 1
  · have z : tcB T p = 0 := by unfold tcB; rw [if_neg c1, if_neg (by omega), if_neg (fun z => z c3), if_neg c4, if_pos (by omega)]
    simp (disch := first | assumption | omega) only [e147_47, e147_50, e147_51, q_gv0, q_gvs, q_isI1, q_isA1, q_hs0, q_hsn, q_hsi, q_hsr, q_hss, q_inc1, List.set_cons_zero, List.set_cons_succ, ↓reduceIte, q_ss0, q_ssi, q_ssr, q_nr0, q_nr10, q_nr11, q_tlS, q_tlN, q_cl, q_let, q_lef, q_ltt, q_ltf, q_eqt, q_eqf, q_add, q_mul, Nat.reduceAdd, Nat.reduceLeDiff, Nat.reduceEqDiff, eq_self, Nat.zero_le, Nat.le_refl, not_false_eq_true, not_true_eq_false, true_and, and_true, and_self, if_true, if_false, c4, c5]
    exact hF0 z _ r4
  have r5 : rdE M (mv_up (mv_up (mv_up (mv_up N2 0 17 (nI (nbP T p + 1))) 0 18 (nI (nbF T (nbP T p + 1) - 1))) 0 17 (nI (nbP T (nbP T p + 1)))) 11 n (nI (nbF T (nbP T p + 1) - 1))) := rdE_a r4 (by decide)
  have t5 := rdE_tY r5 p2
  have l5 := (rdE_ly r5).trans hT
  have f5 : mv_up (mv_up (mv_up (mv_up N2 0 17 (nI (nbP T p + 1))) 0 18 (nI (nbF T (nbP T p + 1) - 1))) 0 17 (nI (nbP T (nbP T p + 1)))) 11 n (nI (nbF T (nbP T p + 1) - 1)) 0 17 = nI (nbP T (nbP T p + 1)) := by rw [q_upO (by decide), q_upS]
  simp (disch := first | assumption | omega) only [e147_47, e147_52, e147_53, e147_56, e147_57, e147_58, e147_61, e147_62, e147_63, e147_65, q_gv0, q_gvs, q_isI1, q_isA1, q_hs0, q_hsn, q_hsi, q_hsr, q_hss, q_inc1, List.set_cons_zero, List.set_cons_succ, ↓reduceIte, q_ss0, q_ssi, q_ssr, q_nr0, q_nr10, q_nr11, q_tlS, q_tlN, q_cl, q_let, q_lef, q_ltt, q_ltf, q_eqt, q_eqf, q_add, q_mul, Nat.reduceAdd, Nat.reduceLeDiff, Nat.reduceEqDiff, eq_self, Nat.zero_le, Nat.le_refl, not_false_eq_true, not_true_eq_false, true_and, and_true, and_self, if_true, if_false, c4, c5, p1.g21, p1.g18, p1.s11, p1.o, q_upN, q_upS, cr143 h143 p1 t5 l5 f5 (show nbP T (nbP T p + 1) < 1000 by omega)]
  have x5 : ∀ j, ¬ j = 17 → ¬ j = 18 → mv_up (mv_up (mv_up (mv_up N2 0 17 (nI (nbP T p + 1))) 0 18 (nI (nbF T (nbP T p + 1) - 1))) 0 17 (nI (nbP T (nbP T p + 1)))) 11 n (nI (nbF T (nbP T p + 1) - 1)) 0 j = M 0 j := fun j h1 h2 => by rw [q_upO (by decide), q_upN (by omega), q_upN (by omega), q_upN (by omega)]; exact x2 j h1 h2
  have y5 : ∀ c, ¬ c = 0 → ¬ c = 10 → ¬ c = 11 → mv_up (mv_up (mv_up (mv_up N2 0 17 (nI (nbP T p + 1))) 0 18 (nI (nbF T (nbP T p + 1) - 1))) 0 17 (nI (nbP T (nbP T p + 1)))) 11 n (nI (nbF T (nbP T p + 1) - 1)) c = M c := fun c h1 h2 h3 => by rw [q_upO h3, q_upO h1, q_upO h1, q_upO h1]; exact y2 c h1 h2
  have k5 : mv_up (mv_up (mv_up (mv_up N2 0 17 (nI (nbP T p + 1))) 0 18 (nI (nbF T (nbP T p + 1) - 1))) 0 17 (nI (nbP T (nbP T p + 1)))) 11 n (nI (nbF T (nbP T p + 1) - 1)) 10 = N2 10 := by rw [q_upO (by decide), q_upO (by decide), q_upO (by decide), q_upO (by decide)]
  have s5 : mv_up (mv_up (mv_up (mv_up N2 0 17 (nI (nbP T p + 1))) 0 18 (nI (nbF T (nbP T p + 1) - 1))) 0 17 (nI (nbP T (nbP T p + 1)))) 11 n (nI (nbF T (nbP T p + 1) - 1)) 11 n = nI (nbF T (nbP T p + 1) - 1) := q_upS
  have s5' : ∀ t, ¬ t = n → mv_up (mv_up (mv_up (mv_up N2 0 17 (nI (nbP T p + 1))) 0 18 (nI (nbF T (nbP T p + 1) - 1))) 0 17 (nI (nbP T (nbP T p + 1)))) 11 n (nI (nbF T (nbP T p + 1) - 1)) 11 t = M 11 t := fun t ht => by rw [q_upN (fun z => ht z.2), q_upO (by decide), q_upO (by decide), q_upO (by decide), y2 11 (by decide) (by decide)]
  generalize mv_up (mv_up (mv_up (mv_up N2 0 17 (nI (nbP T p + 1))) 0 18 (nI (nbF T (nbP T p + 1) - 1))) 0 17 (nI (nbP T (nbP T p + 1)))) 11 n (nI (nbF T (nbP T p + 1) - 1)) = N5 at *
  clear r4
  by_cases c6 : T (nbP T (nbP T p + 1)) = 44
  rotate_left
  · have z : tcB T p = 0 := by unfold tcB; rw [if_neg c1, if_neg (by omega), if_neg (fun z => z c3), if_neg c4, if_neg (by omega), if_pos c6]
    simp (disch := first | assumption | omega) only [e147_68, e147_71, e147_72, q_gv0, q_gvs, q_isI1, q_isA1, q_hs0, q_hsn, q_hsi, q_hsr, q_hss, q_inc1, List.set_cons_zero, List.set_cons_succ, ↓reduceIte, q_ss0, q_ssi, q_ssr, q_nr0, q_nr10, q_nr11, q_tlS, q_tlN, q_cl, q_let, q_lef, q_ltt, q_ltf, q_eqt, q_eqf, q_add, q_mul, Nat.reduceAdd, Nat.reduceLeDiff, Nat.reduceEqDiff, eq_self, Nat.zero_le, Nat.le_refl, not_false_eq_true, not_true_eq_false, true_and, and_true, and_self, if_true, if_false, c6]
    exact hF0 z _ (rdE_0 r5 (by decide))
  have a6 : nbP T (nbP T p + 1) < 200 := by
    rw [← hT] at c6 ⊢
    exact ly_end p2 (by rw [c6]; decide)
  have e6 : sgP T 44 (nbP T (nbP T p + 1)) = tbU T p := if_pos c6
  rw [e6]
  have u6 : tbU T p ≤ 200 := by unfold tbU; omega
  have zz : ∀ h, (fgF T (tbU T p) = 0 ∨ fgF T (tbU T p + 1) = 0 ∨ fgF T (tbU T p + 1 + 1) = 0 ∨ fgF T (tbU T p + 1 + 1 + 1) = 0) → h = tcB T p → h = 0 := by
    intro h hz e
    rw [e]
    unfold tcB
    rw [if_neg c1, if_neg (by omega), if_neg (fun z => z c3), if_neg c4, if_neg (by omega), if_neg (fun z => z c6)]
    by_cases d1 : fgF T (tbU T p) = 0
    · rw [if_pos d1]
    rw [if_neg d1]
    by_cases d2 : fgF T (tbU T p + 1) = 0
    · rw [if_pos d2]
    rw [if_neg d2]
    by_cases d3 : fgF T (tbU T p + 1 + 1) = 0
    · rw [if_pos d3]
    rw [if_neg d3]
    by_cases d4 : fgF T (tbU T p + 1 + 1 + 1) = 0
    · rw [if_pos d4]
    exact absurd hz (by rintro (h | h | h | h) <;> contradiction)
  have sb : ∀ k, ¬ k = 0 → k + 47 - 48 = k - 1 := fun k h => by omega
  have hl6 : ∀ x, ly (mv_up N5 0 17 x) = T := fun x => (fgY0 (Or.inl rfl)).trans l5
  -- the first figure
  have r6 : rdE M (mv_up N5 0 17 (nI (tbU T p))) := rdE_0 r5 (by decide)
  have t6 := rdE_tY r6 p2
  have l6 := (rdE_ly r6).trans hT
  have w6 := @fgY_end _ t6 (tbU T p)
  rw [l6] at w6
  simp (disch := first | assumption | omega) only [e147_68, e147_73, e147_74, e147_75, e147_76, e147_77, e147_80, e147_81, q_gv0, q_gvs, q_isI1, q_isA1, q_hs0, q_hsn, q_hsi, q_hsr, q_hss, q_inc1, List.set_cons_zero, List.set_cons_succ, ↓reduceIte, q_ss0, q_ssi, q_ssr, q_nr0, q_nr10, q_nr11, q_tlS, q_tlN, q_cl, q_let, q_lef, q_ltt, q_ltf, q_eqt, q_eqf, q_add, q_mul, Nat.reduceAdd, Nat.reduceLeDiff, Nat.reduceEqDiff, eq_self, Nat.zero_le, Nat.le_refl, not_false_eq_true, not_true_eq_false, true_and, and_true, and_self, if_true, if_false, c6, p1.o, cr145 h145 p1 t6 l6 q_upS (show tbU T p < 1000 by omega)]
  by_cases d1 : fgF T (tbU T p) = 0
  · simp (disch := first | assumption | omega) only [e147_84, e147_87, e147_88, q_gv0, q_gvs, q_isI1, q_isA1, q_hs0, q_hsn, q_hsi, q_hsr, q_hss, q_inc1, List.set_cons_zero, List.set_cons_succ, ↓reduceIte, q_ss0, q_ssi, q_ssr, q_nr0, q_nr10, q_nr11, q_tlS, q_tlN, q_cl, q_let, q_lef, q_ltt, q_ltf, q_eqt, q_eqf, q_add, q_mul, Nat.reduceAdd, Nat.reduceLeDiff, Nat.reduceEqDiff, eq_self, Nat.zero_le, Nat.le_refl, not_false_eq_true, not_true_eq_false, true_and, and_true, and_self, if_true, if_false, d1]
    exact hF0 (zz _ (Or.inl d1) rfl) _ r6
  obtain ⟨w6a, w6b, w6c⟩ := w6 d1
  rw [q_upO (by decide)] at w6c
  have s1 := sb _ d1
  -- the second
  have r7 : rdE M (mv_up (mv_up (mv_up N5 0 17 (nI (tbU T p))) 12 (4 * n + 0) (nI (fgF T (tbU T p) - 1))) 0 17 (nI (tbU T p + 1))) := rdE_0 (rdE_a r6 (by decide)) (by decide)
  have t7 := rdE_tY r7 p2
  have l7 := (rdE_ly r7).trans hT
  have w7 := @fgY_end _ t7 (tbU T p + 1)
  rw [l7] at w7
  simp (disch := first | assumption | omega) only [e147_84, e147_89, e147_90, e147_93, e147_94, e147_95, e147_96, e147_97, e147_98, e147_99, e147_102, e147_103, e147_106, e147_107, e147_109, e147_110, e147_111, e147_112, e147_113, e147_116, e147_117, e147_118, e147_121, e147_124, e147_75, e147_76, e147_77, e147_80, e147_81, e147_112r, q_gv0, q_gvs, q_isI1, q_isA1, q_hs0, q_hsn, q_hsi, q_hsr, q_hss, q_inc1, List.set_cons_zero, List.set_cons_succ, ↓reduceIte, q_ss0, q_ssi, q_ssr, q_nr0, q_nr10, q_nr11, q_tlS, q_tlN, q_cl, q_let, q_lef, q_ltt, q_ltf, q_eqt, q_eqf, q_add, q_mul, Nat.reduceAdd, Nat.reduceLeDiff, Nat.reduceEqDiff, eq_self, Nat.zero_le, Nat.le_refl, not_false_eq_true, not_true_eq_false, true_and, and_true, and_self, if_true, if_false, d1, p1.o, p1.g22, p1.g12, p1.g17, p1.p17, p1.l7, p1.s12, q_upS, q_upN, q_sub, w6c, s1, cr145 h145 p1 t7 l7 q_upS (show tbU T p + 1 < 1000 by omega)]
  by_cases d2 : fgF T (tbU T p + 1) = 0
  · simp (disch := first | assumption | omega) only [e147_84, e147_87, e147_88, q_gv0, q_gvs, q_isI1, q_isA1, q_hs0, q_hsn, q_hsi, q_hsr, q_hss, q_inc1, List.set_cons_zero, List.set_cons_succ, ↓reduceIte, q_ss0, q_ssi, q_ssr, q_nr0, q_nr10, q_nr11, q_tlS, q_tlN, q_cl, q_let, q_lef, q_ltt, q_ltf, q_eqt, q_eqf, q_add, q_mul, Nat.reduceAdd, Nat.reduceLeDiff, Nat.reduceEqDiff, eq_self, Nat.zero_le, Nat.le_refl, not_false_eq_true, not_true_eq_false, true_and, and_true, and_self, if_true, if_false, d2]
    exact hF0 (zz _ (Or.inr (Or.inl d2)) rfl) _ r7
  obtain ⟨w7a, w7b, w7c⟩ := w7 d2
  have s2 := sb _ d2
  generalize e7 : mv_up (mv_up (mv_up N5 0 17 (nI (tbU T p))) 12 (4 * n + 0) (nI (fgF T (tbU T p) - 1))) 0 17 (nI (tbU T p + 1)) = N7 at *
  have f7 : N7 0 17 = nI (tbU T p + 1) := by rw [← e7]; exact q_upS
  -- the third
  have r8 : rdE M (mv_up (mv_up N7 12 (4 * n + 1) (nI (fgF T (tbU T p + 1) - 1))) 0 17 (nI (tbU T p + 1 + 1))) := rdE_0 (rdE_a r7 (by decide)) (by decide)
  have t8 := rdE_tY r8 p2
  have l8 := (rdE_ly r8).trans hT
  have w8 := @fgY_end _ t8 (tbU T p + 1 + 1)
  rw [l8] at w8
  simp (disch := first | assumption | omega) only [e147_84, e147_89, e147_90, e147_93, e147_94, e147_95, e147_96, e147_97, e147_98, e147_99, e147_102, e147_103, e147_106, e147_107, e147_109, e147_110, e147_111, e147_112, e147_113, e147_116, e147_117, e147_118, e147_121, e147_124, e147_75, e147_76, e147_77, e147_80, e147_81, e147_112r, q_gv0, q_gvs, q_isI1, q_isA1, q_hs0, q_hsn, q_hsi, q_hsr, q_hss, q_inc1, List.set_cons_zero, List.set_cons_succ, ↓reduceIte, q_ss0, q_ssi, q_ssr, q_nr0, q_nr10, q_nr11, q_tlS, q_tlN, q_cl, q_let, q_lef, q_ltt, q_ltf, q_eqt, q_eqf, q_add, q_mul, Nat.reduceAdd, Nat.reduceLeDiff, Nat.reduceEqDiff, eq_self, Nat.zero_le, Nat.le_refl, not_false_eq_true, not_true_eq_false, true_and, and_true, and_self, if_true, if_false, d2, p1.o, p1.g22, p1.g12, p1.g17, p1.p17, p1.l7, p1.s12, q_upS, q_upO, q_sub, f7, w7c, s2, cr145 h145 p1 t8 l8 q_upS (show tbU T p + 1 + 1 < 1000 by omega)]
  by_cases d3 : fgF T (tbU T p + 1 + 1) = 0
  · simp (disch := first | assumption | omega) only [e147_84, e147_87, e147_88, q_gv0, q_gvs, q_isI1, q_isA1, q_hs0, q_hsn, q_hsi, q_hsr, q_hss, q_inc1, List.set_cons_zero, List.set_cons_succ, ↓reduceIte, q_ss0, q_ssi, q_ssr, q_nr0, q_nr10, q_nr11, q_tlS, q_tlN, q_cl, q_let, q_lef, q_ltt, q_ltf, q_eqt, q_eqf, q_add, q_mul, Nat.reduceAdd, Nat.reduceLeDiff, Nat.reduceEqDiff, eq_self, Nat.zero_le, Nat.le_refl, not_false_eq_true, not_true_eq_false, true_and, and_true, and_self, if_true, if_false, d3]
    exact hF0 (zz _ (Or.inr (Or.inr (Or.inl d3))) rfl) _ r8
  obtain ⟨w8a, w8b, w8c⟩ := w8 d3
  have s3 := sb _ d3
  generalize e8 : mv_up (mv_up N7 12 (4 * n + 1) (nI (fgF T (tbU T p + 1) - 1))) 0 17 (nI (tbU T p + 1 + 1)) = N8 at *
  have f8 : N8 0 17 = nI (tbU T p + 1 + 1) := by rw [← e8]; exact q_upS
  -- the fourth
  have r9 : rdE M (mv_up (mv_up N8 12 (4 * n + 2) (nI (fgF T (tbU T p + 1 + 1) - 1))) 0 17 (nI (tbU T p + 1 + 1 + 1))) := rdE_0 (rdE_a r8 (by decide)) (by decide)
  have t9 := rdE_tY r9 p2
  have l9 := (rdE_ly r9).trans hT
  have w9 := @fgY_end _ t9 (tbU T p + 1 + 1 + 1)
  rw [l9] at w9
  simp (disch := first | assumption | omega) only [e147_84, e147_89, e147_90, e147_93, e147_94, e147_95, e147_96, e147_97, e147_98, e147_99, e147_102, e147_103, e147_106, e147_107, e147_109, e147_110, e147_111, e147_112, e147_113, e147_116, e147_117, e147_118, e147_121, e147_124, e147_75, e147_76, e147_77, e147_80, e147_81, e147_112r, q_gv0, q_gvs, q_isI1, q_isA1, q_hs0, q_hsn, q_hsi, q_hsr, q_hss, q_inc1, List.set_cons_zero, List.set_cons_succ, ↓reduceIte, q_ss0, q_ssi, q_ssr, q_nr0, q_nr10, q_nr11, q_tlS, q_tlN, q_cl, q_let, q_lef, q_ltt, q_ltf, q_eqt, q_eqf, q_add, q_mul, Nat.reduceAdd, Nat.reduceLeDiff, Nat.reduceEqDiff, eq_self, Nat.zero_le, Nat.le_refl, not_false_eq_true, not_true_eq_false, true_and, and_true, and_self, if_true, if_false, d3, p1.o, p1.g22, p1.g12, p1.g17, p1.p17, p1.l7, p1.s12, q_upS, q_upO, q_sub, f8, w8c, s3, cr145 h145 p1 t9 l9 q_upS (show tbU T p + 1 + 1 + 1 < 1000 by omega)]
  by_cases d4 : fgF T (tbU T p + 1 + 1 + 1) = 0
  · simp (disch := first | assumption | omega) only [e147_84, e147_87, e147_88, q_gv0, q_gvs, q_isI1, q_isA1, q_hs0, q_hsn, q_hsi, q_hsr, q_hss, q_inc1, List.set_cons_zero, List.set_cons_succ, ↓reduceIte, q_ss0, q_ssi, q_ssr, q_nr0, q_nr10, q_nr11, q_tlS, q_tlN, q_cl, q_let, q_lef, q_ltt, q_ltf, q_eqt, q_eqf, q_add, q_mul, Nat.reduceAdd, Nat.reduceLeDiff, Nat.reduceEqDiff, eq_self, Nat.zero_le, Nat.le_refl, not_false_eq_true, not_true_eq_false, true_and, and_true, and_self, if_true, if_false, d4]
    exact hF0 (zz _ (Or.inr (Or.inr (Or.inr d4))) rfl) _ r9
  obtain ⟨w9a, w9b, w9c⟩ := w9 d4
  have s4 := sb _ d4
  generalize e9 : mv_up (mv_up N8 12 (4 * n + 2) (nI (fgF T (tbU T p + 1 + 1) - 1))) 0 17 (nI (tbU T p + 1 + 1 + 1)) = N9 at *
  have f9 : N9 0 17 = nI (tbU T p + 1 + 1 + 1) := by rw [← e9]; exact q_upS
  have g9 : N9 0 19 = nI n := by rw [← e9, q_upN (by decide), q_upO (by decide), ← e8, q_upN (by decide), q_upO (by decide), ← e7, q_upN (by decide), q_upO (by decide), q_upN (by decide), x5 19 (by decide) (by decide)]; exact hN
  simp (disch := first | assumption | omega) only [e147_84, e147_89, e147_90, e147_93, e147_94, e147_95, e147_96, e147_97, e147_98, e147_99, e147_102, e147_103, e147_106, e147_107, e147_109, e147_110, e147_111, e147_112, e147_113, e147_116, e147_117, e147_118, e147_121, e147_124, e147_75, e147_76, e147_77, e147_127, e147_128, e147_129, e147_132, e147_133, e147_134, e147_137, e147_138, e147_112r, e147_128r, q_gv0, q_gvs, q_isI1, q_isA1, q_hs0, q_hsn, q_hsi, q_hsr, q_hss, q_inc1, List.set_cons_zero, List.set_cons_succ, ↓reduceIte, q_ss0, q_ssi, q_ssr, q_nr0, q_nr10, q_nr11, q_tlS, q_tlN, q_cl, q_let, q_lef, q_ltt, q_ltf, q_eqt, q_eqf, q_add, q_mul, Nat.reduceAdd, Nat.reduceLeDiff, Nat.reduceEqDiff, eq_self, Nat.zero_le, Nat.le_refl, not_false_eq_true, not_true_eq_false, true_and, and_true, and_self, if_true, if_false, d4, p1.o, p1.g22, p1.g12, p1.g17, p1.p17, p1.l7, p1.s12, p1.g19, p1.p19, q_upS, q_upN, q_upO, q_sub, f9, g9, w9c, s4]
  have ok : tcB T p = 1 := by
    unfold tcB
    rw [if_neg c1, if_neg (by omega), if_neg (fun z => z c3), if_neg c4, if_neg (by omega), if_neg (fun z => z c6), if_neg d1, if_neg d2, if_neg d3, if_neg d4]
  refine hS ok c0 _ (rdE_0 (rdE_0 (rdE_a r9 (by decide)) (by decide)) (by decide)) (by rw [q_upN (by decide), q_upS]) ?_
  have v9 : ∀ j, ¬ j = 17 → ¬ j = 18 → N9 0 j = M 0 j := fun j h1 h2 => by
    rw [← e9, q_upN (by omega), q_upO (by decide), ← e8, q_upN (by omega), q_upO (by decide), ← e7, q_upN (by omega), q_upO (by decide), q_upN (by omega)]
    exact x5 j h1 h2
  have o9 : ∀ c, ¬ c = 0 → ¬ c = 12 → N9 c = N5 c := fun c h1 h2 => by
    rw [← e9, q_upO h1, q_upO h2, ← e8, q_upO h1, q_upO h2, ← e7, q_upO h1, q_upO h2, q_upO h1]
  have m12 : N5 12 = M 12 := y5 12 (by decide) (by decide) (by decide)
  refine ⟨q_upS, ?_, ?_, ?_, ?_, fun t ht => ?_, ?_, fun t ht => ?_, fun h hh => ?_, fun j hj => ?_, ?_, ?_⟩
  · rw [q_upN (by decide), q_upN (by decide), q_upO (by decide)]; exact v9 23 (by decide) (by decide)
  · rw [q_upN (by decide), q_upN (by decide), q_upO (by decide)]; exact v9 25 (by decide) (by decide)
  · rw [q_upN (by decide), q_upN (by decide), q_upO (by decide)]; exact v9 26 (by decide) (by decide)
  · rw [q_upO (by decide), q_upO (by decide), q_upO (by decide), o9 10 (by decide) (by decide), k5]; exact k2
  · rw [q_upO (by decide), q_upO (by decide), q_upO (by decide), o9 10 (by decide) (by decide), k5]; exact k2' t ht
  · rw [q_upO (by decide), q_upO (by decide), q_upO (by decide), o9 11 (by decide) (by decide)]; exact s5
  · rw [q_upO (by decide), q_upO (by decide), q_upO (by decide), o9 11 (by decide) (by decide)]; exact s5' t ht
  · rw [q_upO (by decide), q_upO (by decide)]
    rcases (show h = 0 ∨ h = 1 ∨ h = 2 ∨ h = 3 by omega) with rfl | rfl | rfl | rfl
    · rw [q_upN (by omega), ← e9, q_upO (by decide), q_upN (by omega), ← e8, q_upO (by decide), q_upN (by omega), ← e7, q_upO (by decide), q_upS]; rfl
    · rw [q_upN (by omega), ← e9, q_upO (by decide), q_upN (by omega), ← e8, q_upO (by decide), q_upS]
    · rw [q_upN (by omega), ← e9, q_upO (by decide), q_upS]
    · exact q_upS
  · rw [q_upO (by decide), q_upO (by decide), q_upN (by omega), ← e9, q_upO (by decide), q_upN (by omega), ← e8, q_upO (by decide), q_upN (by omega), ← e7, q_upO (by decide), q_upN (by omega), q_upO (by decide), m12]
  · rw [q_upO (by decide), q_upO (by decide), q_upO (by decide), o9 13 (by decide) (by decide)]; exact y5 13 (by decide) (by decide) (by decide)
  · rw [q_upO (by decide), q_upO (by decide), q_upO (by decide), o9 14 (by decide) (by decide)]; exact y5 14 (by decide) (by decide) (by decide)
