/-! the model: fewest, needs -/
/-- the line, and whence each came -/
def gC (M : mv_Mem) (A : Nat) : Prop := ∃ l, M 0 36 = nI l ∧ l ≤ 4096 ∧ ∀ i, i < l → ∃ h, h < A ∧ M 21 i = nI h ∧ (∃ b, b < 100 ∧ M 20 h = nI b) ∧ (M 19 h = Int32.ofInt (-4) ∨ ∃ j h', j < i ∧ h' < A ∧ M 21 j = nI h' ∧ M 19 h = nI h')
theorem gC_co {M : mv_Mem} {A nP h b : Nat} {f : Int32} (g : gS M A nP) (gi : gI M A) (c : gC M A) (hh : h < A) (hb : b < 100) (hf : f = Int32.ofInt (-4) ∨ ∃ j h', j < (M 0 36).toNatClampNeg ∧ h' < A ∧ M 21 j = nI h' ∧ f = nI h') : gC (coM M h f (nI b)) A := by
  obtain ⟨l, h1, h2, h3⟩ := id c
  have hA := gS_A g
  rw [h1, q_cl (by omega)] at hf
  unfold coM
  by_cases z : M 20 h < nI 0
  · obtain ⟨l', p1, p2, p3⟩ := gI_pre g gi hh
    obtain rfl : l' = l := nI_inj (p2.symm.trans h1) (by omega) (by omega)
    have l4 := p3 z
    rw [if_pos z, h1, q_cl (by omega)]
    refine ⟨l' + 1, q_upS, by omega, fun i hi => ?_⟩
    by_cases e : i = l'
    · subst e
      refine ⟨h, hh, by rw [q_upO (by decide), q_upS], ⟨b, hb, by rw [q_upO (by decide), q_upO (by decide), q_upO (by decide), q_upS]⟩, ?_⟩
      rw [q_upO (by decide), q_upO (by decide), q_upS]
      rcases hf with hf | ⟨j, h', f1, f2, f3, f4⟩
      · exact Or.inl hf
      · exact Or.inr ⟨j, h', f1, f2, by rw [q_upO (by decide), q_upN (by omega), q_upO (by decide), q_upO (by decide)]; exact f3, f4⟩
    · obtain ⟨k, a1, a2, ⟨d, a3, a4⟩, a5⟩ := h3 i (by omega)
      have kh : ¬ k = h := by
        intro e
        rw [e] at a4
        rw [a4] at z
        exact nI_nn (by omega) z
      refine ⟨k, a1, by rw [q_upO (by decide), q_upN (by omega), q_upO (by decide), q_upO (by decide)]; exact a2, ⟨d, a3, by rw [q_upO (by decide), q_upO (by decide), q_upO (by decide), q_upN (by omega)]; exact a4⟩, ?_⟩
      rw [q_upO (by decide), q_upO (by decide), q_upN (by omega), q_upO (by decide)]
      rcases a5 with a5 | ⟨j, h', f1, f2, f3, f4⟩
      · exact Or.inl a5
      · exact Or.inr ⟨j, h', f1, f2, by rw [q_upO (by decide), q_upN (by omega), q_upO (by decide), q_upO (by decide)]; exact f3, f4⟩
  · rw [if_neg z]
    exact c
theorem coM_21 {M : mv_Mem} {A nP h j : Nat} {f b : Int32} (g : gS M A nP) (gi : gI M A) (hj : j < (M 0 36).toNatClampNeg) : coM M h f b 21 j = M 21 j ∧ j < (coM M h f b 0 36).toNatClampNeg := by
  obtain ⟨l, h1, h2, -⟩ := gi
  have hl := mtF_le M A
  have hA := gS_A g
  rw [h1, q_cl (by omega)] at hj
  unfold coM
  split
  · rw [h1, q_cl (by omega)]
    refine ⟨by rw [q_upO (by decide), q_upN (by omega), q_upO (by decide), q_upO (by decide)], ?_⟩
    rw [q_upS, q_cl (by omega)]
    omega
  · rw [h1, q_cl (by omega)]
    exact ⟨rfl, hj⟩
theorem gC_gf {A nP h j : Nat} {y : Int32} (hh : h < A) : ∀ n s M, s + n = 2 * nP → gS M A nP → gI M A → gC M A → j < (M 0 36).toNatClampNeg → M 21 j = nI h → gC (gfF h y n s M) A
  | 0, _, _, _, _, _, c, _, _ => c
  | n + 1, s, M, e, g, i, c, hj, hJ => by
    unfold gfF
    by_cases z : y >>> (nI (s / 2) &&& 31) &&& nI 1 = nI 1
    · rw [if_pos z]
      obtain ⟨k, hk, hK⟩ := g.2.2.2.2 s (by omega)
      have g4 := g.2.2.2.1
      obtain ⟨q, hq, hA⟩ := id g.2.1
      have hA4 := gS_A g
      rw [hK, q_cl (by omega)]
      have pl : plN h k < A := by subst hA; exact plN_lt hq hh hk
      have c2 := @coM_21 M A nP (plN h k) j (nI h) (nI s) g i hj
      exact gC_gf hh n (s + 1) _ (by omega) (gS_co g) (gI_co g i pl (nI_nn (by omega))) (gC_co g i c pl (by omega) (Or.inr ⟨j, h, hj, hh, hJ, rfl⟩)) c2.2 (by rw [c2.1]; exact hJ)
    · rw [if_neg z]
      exact gC_gf hh n (s + 1) M (by omega) g i c hj hJ
theorem gC_gt {A nP : Nat} {x y : Int32} : ∀ n k M, gS M A nP → gI M A → gC M A → gC (gtF x y n k M).2 A
  | 0, _, _, _, _, c => c
  | n + 1, k, M, g, i, c => by
    obtain ⟨l, h1, h2, h3⟩ := id i
    have hl := mtF_le M A
    have hA := gS_A g
    unfold gtF
    by_cases z : k < (M 0 36).toNatClampNeg
    · rw [if_pos z]
      have z2 := z
      rw [h1, q_cl (by omega)] at z2
      obtain ⟨h, hh, hH⟩ := h3 k z2
      split
      · exact c
      · rw [hH, q_cl (show h < 2147483648 by omega)]
        have g7 : (M 0 7).toNatClampNeg = nP := by rw [g.2.2.1, q_cl (by have := g.2.2.2.1; omega)]
        have nx := gIS_gf (y := y) hh (2 * nP) 0 M (by omega) g i
        have cx := gC_gf (y := y) hh (2 * nP) 0 M (by omega) g i c z hH
        have e2 : gfM M h y = gfF h y (2 * nP) 0 M := by unfold gfM; rw [g7]
        rw [← e2] at nx cx
        exact gC_gt n (k + 1) _ nx.1 nx.2 cx
    · rw [if_neg z]
      exact c
theorem gC_gtM {M : mv_Mem} {A nP k : Nat} {x y : Int32} (g : gS M A nP) (hk : k < A) (hK : hnY M = nI k) : gC (gtM M x y).2 A := by
  have gi := gI_gt0 g hk hK
  refine gC_gt 4097 0 _ gi.1 gi.2 ?_
  have hA := gS_A g
  have e32 : (M 0 32).toNatClampNeg = A := by rw [g.1, q_cl (by omega)]
  unfold gt0
  rw [e32, hK, q_cl (by omega)]
  have g1 : gS (mv_up (fiM M 20 (Int32.ofInt (-1)) A) 0 36 (nI 0)) A nP := gS_of g (by rw [q_upN (by decide), fiM_out (by decide)]) (by rw [q_upN (by decide), fiM_out (by decide)]) (by rw [q_upO (by decide), fiM_out (by decide)])
  have i1 : gI (mv_up (fiM M 20 (Int32.ofInt (-1)) A) 0 36 (nI 0)) A := ⟨0, q_upS, mtF_0 A (fun i hi => by rw [q_upO (by decide), fiM_in _ _ hi]; decide), fun i hi => absurd hi (by omega)⟩
  exact gC_co g1 i1 ⟨0, q_upS, by decide, fun i hi => absurd hi (by omega)⟩ hk (by decide) (Or.inl rfl)
/-- how many steps back to the start -/
def wnY (M : mv_Mem) : Nat → Nat → Nat
  | 0, _ => 0
  | n + 1, q => if M 19 q = Int32.ofInt (-4) then 0 else wnY M n (M 19 q).toNatClampNeg + 1
def bkY (M : mv_Mem) : Nat → Nat → Nat
  | 0, x => x
  | n + 1, x => bkY M n (M 19 x).toNatClampNeg
theorem lp188a {S : Nat → mv_Sp} {sh : mv_Shp} {M : mv_Mem} {P : mv_Post} {A : Nat} {x y u : Int32} (p1 : oM sh) (c : gC M A) (hA : A ≤ 4096) :
    ∀ i q n k z, i < (M 0 36).toNatClampNeg → M 21 i = nI q → q < 4096 → i < n → (∀ v, mr188 S P 71 [some (.ref 0), some (.int x), some (.int y), some (.int u), some (.int (nI (k + wnY M n q))), v, z] [] sh M 0 0) →
      mr188 S P 44 [some (.ref 0), some (.int x), some (.int y), some (.int u), some (.int (nI k)), some (.int (nI q)), z] [] sh M 0 0 := by
  intro i
  induction i using Nat.strongRecOn with
  | _ i ih =>
    intro q n k z hi hq hq4 hn hQ
    obtain ⟨l, h1, h2, h3⟩ := id c
    rw [h1, q_cl (by omega)] at hi
    obtain ⟨h, a1, a2, ⟨d, a3, a4⟩, a5⟩ := h3 i hi
    obtain rfl : h = q := nI_inj (a2.symm.trans hq) (by omega) (by omega)
    obtain ⟨n, rfl⟩ : ∃ n', n = n' + 1 := ⟨n - 1, by omega⟩
    unfold wnY at hQ
    have h4 : h < 4096 := by omega
    rw [e188_44]
    rcases a5 with a5 | ⟨j, h', f1, f2, f3, f4⟩
    · rw [if_pos a5, Nat.add_zero] at hQ
      simp (disch := first | assumption | omega) only [e188_45, e188_48, e188_50, e188_51, e188_53, q_gv0, q_gvs, q_isI1, q_isA1, q_hs0, q_hsn, q_hsi, q_hsr, q_hss, q_inc1, List.set_cons_zero, List.set_cons_succ, ↓reduceIte, q_ss0, q_ssi, q_ssr, q_nr0, q_nr10, q_nr11, q_tlS, q_tlN, q_cl, q_let, q_lef, q_ltt, q_ltf, q_eqt, q_eqf, q_add, q_mul, Nat.reduceAdd, Nat.reduceLeDiff, Nat.reduceEqDiff, eq_self, Nat.zero_le, Nat.le_refl, not_false_eq_true, not_true_eq_false, true_and, and_true, and_self, if_true, if_false, p1.g33, p1.l19, a5]
      exact hQ _
    · have n4 : ¬ M 19 h = Int32.ofInt (-4) := by rw [f4]; exact nI_m4 (by omega)
      rw [if_neg n4, f4, q_cl (show h' < 2147483648 by omega)] at hQ
      have n5 := nI_m4 (show h' < 2147483648 by omega)
      simp (disch := first | assumption | omega) only [e188_45, e188_48, e188_50, e188_51, e188_53, e188_56, e188_59, e188_60, e188_63, e188_65, e188_66, e188_68, q_gv0, q_gvs, q_isI1, q_isA1, q_hs0, q_hsn, q_hsi, q_hsr, q_hss, q_inc1, List.set_cons_zero, List.set_cons_succ, ↓reduceIte, q_ss0, q_ssi, q_ssr, q_nr0, q_nr10, q_nr11, q_tlS, q_tlN, q_cl, q_let, q_lef, q_ltt, q_ltf, q_eqt, q_eqf, q_add, q_mul, Nat.reduceAdd, Nat.reduceLeDiff, Nat.reduceEqDiff, eq_self, Nat.zero_le, Nat.le_refl, not_false_eq_true, not_true_eq_false, true_and, and_true, and_self, if_true, if_false, p1.g33, p1.l19, f4, n5]
      refine ih j f1 h' n (k + 1) z (by rw [h1, q_cl (by omega)]; omega) f3 (by omega) (by omega) (fun v => ?_)
      rw [show k + 1 + wnY M n h' = k + (wnY M n h' + 1) by omega]
      exact hQ v
theorem m1g {q : Nat} (h : 1 ≤ q) : nI q + Int32.ofInt (-1) = nI (q - 1) := by
  obtain ⟨k, rfl⟩ : ∃ k, q = k + 1 := ⟨q - 1, by omega⟩
  rw [← q_add, Int32.add_assoc, show nI 1 + Int32.ofInt (-1) = 0 by decide, Int32.add_zero]
  rfl
theorem lp188b {S : Nat → mv_Sp} {sh : mv_Shp} {M : mv_Mem} {P : mv_Post} {A j : Nat} {x u v : Int32} (p1 : oM sh) (c : gC M A) (hA : A ≤ 4096) (hj : j < 10000)  :
    ∀ m i q n, i < (M 0 36).toNatClampNeg → M 21 i = nI q → q < 4096 → m < wnY M n q → m < 10000 →
      (∀ b z, (∃ d, d < 100 ∧ M 20 (bkY M m q) = nI d ∧ b = d) → bkY M m q < 4096 → mr188 S P 123 [some (.ref 0), some (.int x), some (.int (nI j)), some (.int u), some (.int v), some (.int (nI (bkY M m q))), z] [] sh M 0 0) →
      mr188 S P 102 [some (.ref 0), some (.int x), some (.int (nI j)), some (.int u), some (.int v), some (.int (nI q)), some (.int (nI (j + m)))] [] sh M 0 0
  | 0, i, q, n, hi, hq, hq4, hm, hm2, hQ => by
    obtain ⟨l, h1, h2, h3⟩ := id c
    rw [h1, q_cl (by omega)] at hi
    obtain ⟨h, a1, a2, ⟨d, a3, a4⟩, a5⟩ := h3 i hi
    obtain rfl : h = q := nI_inj (a2.symm.trans hq) (by omega) (by omega)
    rw [e188_102]
    simp (disch := first | assumption | omega) only [e188_104, e188_105, q_gv0, q_gvs, q_isI1, q_isA1, q_hs0, q_hsn, q_hsi, q_hsr, q_hss, q_inc1, List.set_cons_zero, List.set_cons_succ, ↓reduceIte, q_ss0, q_ssi, q_ssr, q_nr0, q_nr10, q_nr11, q_tlS, q_tlN, q_cl, q_let, q_lef, q_ltt, q_ltf, q_eqt, q_eqf, q_add, q_mul, Nat.reduceAdd, Nat.reduceLeDiff, Nat.reduceEqDiff, eq_self, Nat.zero_le, Nat.le_refl, not_false_eq_true, not_true_eq_false, true_and, and_true, and_self, if_true, if_false]
    exact hQ d _ ⟨d, a3, a4, rfl⟩ hq4
  | m + 1, i, q, n, hi, hq, hq4, hm, hm2, hQ => by
    obtain ⟨l, h1, h2, h3⟩ := id c
    rw [h1, q_cl (by omega)] at hi
    obtain ⟨h, a1, a2, -, a5⟩ := h3 i hi
    obtain rfl : h = q := nI_inj (a2.symm.trans hq) (by omega) (by omega)
    cases n with
    | zero => exact absurd hm (by unfold wnY; omega)
    | succ n =>
      unfold wnY at hm
      rcases a5 with a5 | ⟨j', h', f1, f2, f3, f4⟩
      · rw [if_pos a5] at hm
        exact absurd hm (by omega)
      · have n4 : ¬ M 19 h = Int32.ofInt (-4) := by rw [f4]; exact nI_m4 (by omega)
        rw [if_neg n4, f4, q_cl (show h' < 2147483648 by omega)] at hm
        unfold bkY at hQ
        rw [f4, q_cl (show h' < 2147483648 by omega)] at hQ
        have e1 : nI (j + (m + 1)) + Int32.ofInt (-1) = nI (j + m) := m1g (by omega)
        rw [e188_102]
        simp (disch := first | assumption | omega) only [e188_104, e188_105, e188_108, e188_109, e188_112, e188_114, e188_115, e188_117, e188_120, q_gv0, q_gvs, q_isI1, q_isA1, q_hs0, q_hsn, q_hsi, q_hsr, q_hss, q_inc1, List.set_cons_zero, List.set_cons_succ, ↓reduceIte, q_ss0, q_ssi, q_ssr, q_nr0, q_nr10, q_nr11, q_tlS, q_tlN, q_cl, q_let, q_lef, q_ltt, q_ltf, q_eqt, q_eqf, q_add, q_mul, Nat.reduceAdd, Nat.reduceLeDiff, Nat.reduceEqDiff, eq_self, Nat.zero_le, Nat.le_refl, not_false_eq_true, not_true_eq_false, true_and, and_true, and_self, if_true, if_false, p1.g33, p1.l19, f4, e1]
        exact lp188b p1 c hA hj m j' h' n (by rw [h1, q_cl (by omega)]; omega) f3 (by omega) (by omega) (by omega) hQ
theorem wnY_le (M : mv_Mem) : ∀ n x, wnY M n x ≤ n
  | 0, _ => Nat.le_refl _
  | n + 1, x => by
    unfold wnY
    split
    · omega
    · have := wnY_le M n (M 19 x).toNatClampNeg
      omega
def fwY (R : Int32 × mv_Mem) (y : Int32) : Int32 :=
  if R.1 = Int32.ofInt (-4) then Int32.ofInt (-4) else if y = Int32.ofInt (-1) then nI (wnY R.2 4097 R.1.toNatClampNeg)
  else if y < nI (wnY R.2 4097 R.1.toNatClampNeg) then nI (10 * ((R.2 20 (bkY R.2 (wnY R.2 4097 R.1.toNatClampNeg - 1 - y.toNatClampNeg) R.1.toNatClampNeg)).toNatClampNeg / 2) + (R.2 20 (bkY R.2 (wnY R.2 4097 R.1.toNatClampNeg - 1 - y.toNatClampNeg) R.1.toNatClampNeg)).toNatClampNeg % 2) else Int32.ofInt (-4)
def sp188 : mv_Sp := fun As sh M Q => ∃ (x : Int32) (y : Int32), As = [.ref 0, .int x, .int y] ∧ ((oM sh) ∧ (gM M) ∧ (cY M 0)) ∧ Q (some (.int (if x < nI 0 then Int32.ofInt (-1) else if nI (10 ^ (M 0 3).toNatClampNeg) ≤ x then Int32.ofInt (-1) else if y < Int32.ofInt (-1) then Int32.ofInt (-1) else fwY (gtM (lhM M) x (epY M)) y))) (sh) (if x < nI 0 then M else if nI (10 ^ (M 0 3).toNatClampNeg) ≤ x then M else if y < Int32.ofInt (-1) then M else (gtM (lhM M) x (epY M)).2)
theorem cl188 {S : Nat → mv_Sp} (hS : S 188 = sp188) {sh : mv_Shp} {M : mv_Mem} {x : Int32} {y : Int32} (p1 : oM sh) (p2 : gM M) (p3 : cY M 0) {K : mv_Kt} {pc : Nat} {L : mv_Loc} {st : List Value} {cc_ ss_ : Nat} : mv_kal S 188 [.ref 0, .int x, .int y] sh M K pc L st cc_ ss_ = K pc L ((some (.int (if x < nI 0 then Int32.ofInt (-1) else if nI (10 ^ (M 0 3).toNatClampNeg) ≤ x then Int32.ofInt (-1) else if y < Int32.ofInt (-1) then Int32.ofInt (-1) else fwY (gtM (lhM M) x (epY M)) y)) : Option Value).toList ++ st) (sh) (if x < nI 0 then M else if nI (10 ^ (M 0 3).toNatClampNeg) ≤ x then M else if y < Int32.ofInt (-1) then M else (gtM (lhM M) x (epY M)).2) cc_ ss_ := by
  refine q_kal (fun F => q_cali (fun Q => ?_))
  rw [hS]
  constructor
  · rintro ⟨x', y', hE, ⟨zp1, zp2, zp3⟩, hQ⟩
    simp only [List.cons.injEq, Value.ref.injEq, Value.int.injEq, Value.long.injEq, and_true, true_and] at hE
    obtain ⟨rfl, rfl⟩ := hE
    exact hQ
  · intro hQ
    exact ⟨x, y, rfl, ⟨p1, p2, p3⟩, hQ⟩
theorem ct188 {S : Nat → mv_Sp} (h167 : S 167 = sp167) (h169 : S 169 = sp169) (h176 : S 176 = sp176) (h179 : S 179 = sp179) : ∀ As sh M P, sp188 As sh M P → (mv_al0 As).length ≤ 7 ∧ mr188 S P 0 (mv_ent As 7) [] sh M 0 0 := by
  rintro As sh M P ⟨x, y, rfl, ⟨p1, p2, p3⟩, hQ⟩
  refine ⟨Nat.le_of_ble_eq_true rfl, ?_⟩
  show mr188 S P 0 [some (.ref 0), some (.int x), some (.int y), none, none, none, none] [] sh M 0 0
  have hn0 : ∃ n, n ≤ 6 ∧ M 0 3 = nI n := p2.1
  by_cases c1 : x < nI 0
  · rw [if_pos c1, if_pos c1] at hQ
    simp (disch := first | assumption | omega) only [e188_0, e188_1, e188_2, e188_5, e188_8, e188_9, e188_10, e188_13, e188_14, e188_15, e188_16, e188_19, e188_20, e188_21, e188_22, e188_25, e188_28, e188_29, e188_30, e188_32, e188_35, e188_37, e188_38, e188_39, e188_41, e188_42, e188_45, e188_48, e188_50, e188_51, e188_53, e188_56, e188_59, e188_60, e188_63, e188_65, e188_66, e188_68, e188_71, e188_72, e188_75, e188_76, e188_78, e188_81, e188_82, e188_85, e188_87, e188_90, e188_92, e188_93, e188_94, e188_96, e188_98, e188_99, e188_100, e188_104, e188_105, e188_108, e188_109, e188_112, e188_114, e188_115, e188_117, e188_120, e188_123, e188_125, e188_126, e188_129, e188_131, e188_132, e188_133, e188_134, e188_135, e188_136, e188_139, e188_141, e188_142, e188_143, e188_144, e188_145, q_gv0, q_gvs, q_isI1, q_isA1, q_hs0, q_hsn, q_hsi, q_hsr, q_hss, q_inc1, List.set_cons_zero, List.set_cons_succ, ↓reduceIte, q_ss0, q_ssi, q_ssr, q_nr0, q_nr10, q_nr11, q_tlS, q_tlN, q_cl, q_let, q_lef, q_ltt, q_ltf, q_eqt, q_eqf, q_add, q_mul, Nat.reduceAdd, Nat.reduceLeDiff, Nat.reduceEqDiff, eq_self, Nat.zero_le, Nat.le_refl, not_false_eq_true, not_true_eq_false, true_and, and_true, and_self, if_true, if_false, p1.o, c1, cl167 h167]
    exact hQ
  rw [if_neg c1, if_neg c1] at hQ
  by_cases c2 : nI (10 ^ (M 0 3).toNatClampNeg) ≤ x
  · rw [if_pos c2, if_pos c2] at hQ
    simp (disch := first | assumption | omega) only [e188_0, e188_1, e188_2, e188_5, e188_8, e188_9, e188_10, e188_13, e188_14, e188_15, e188_16, e188_19, e188_20, e188_21, e188_22, e188_25, e188_28, e188_29, e188_30, e188_32, e188_35, e188_37, e188_38, e188_39, e188_41, e188_42, e188_45, e188_48, e188_50, e188_51, e188_53, e188_56, e188_59, e188_60, e188_63, e188_65, e188_66, e188_68, e188_71, e188_72, e188_75, e188_76, e188_78, e188_81, e188_82, e188_85, e188_87, e188_90, e188_92, e188_93, e188_94, e188_96, e188_98, e188_99, e188_100, e188_104, e188_105, e188_108, e188_109, e188_112, e188_114, e188_115, e188_117, e188_120, e188_123, e188_125, e188_126, e188_129, e188_131, e188_132, e188_133, e188_134, e188_135, e188_136, e188_139, e188_141, e188_142, e188_143, e188_144, e188_145, q_gv0, q_gvs, q_isI1, q_isA1, q_hs0, q_hsn, q_hsi, q_hsr, q_hss, q_inc1, List.set_cons_zero, List.set_cons_succ, ↓reduceIte, q_ss0, q_ssi, q_ssr, q_nr0, q_nr10, q_nr11, q_tlS, q_tlN, q_cl, q_let, q_lef, q_ltt, q_ltf, q_eqt, q_eqf, q_add, q_mul, Nat.reduceAdd, Nat.reduceLeDiff, Nat.reduceEqDiff, eq_self, Nat.zero_le, Nat.le_refl, not_false_eq_true, not_true_eq_false, true_and, and_true, and_self, if_true, if_false, p1.o, c1, c2, cl167 h167]
    exact hQ
  rw [if_neg c2, if_neg c2] at hQ
  by_cases c3 : y < Int32.ofInt (-1)
  · rw [if_pos c3, if_pos c3] at hQ
    have c4 : ¬ Int32.ofInt (-1) ≤ y := Int32.not_le.mpr c3
    simp (disch := first | assumption | omega) only [e188_0, e188_1, e188_2, e188_5, e188_8, e188_9, e188_10, e188_13, e188_14, e188_15, e188_16, e188_19, e188_20, e188_21, e188_22, e188_25, e188_28, e188_29, e188_30, e188_32, e188_35, e188_37, e188_38, e188_39, e188_41, e188_42, e188_45, e188_48, e188_50, e188_51, e188_53, e188_56, e188_59, e188_60, e188_63, e188_65, e188_66, e188_68, e188_71, e188_72, e188_75, e188_76, e188_78, e188_81, e188_82, e188_85, e188_87, e188_90, e188_92, e188_93, e188_94, e188_96, e188_98, e188_99, e188_100, e188_104, e188_105, e188_108, e188_109, e188_112, e188_114, e188_115, e188_117, e188_120, e188_123, e188_125, e188_126, e188_129, e188_131, e188_132, e188_133, e188_134, e188_135, e188_136, e188_139, e188_141, e188_142, e188_143, e188_144, e188_145, q_gv0, q_gvs, q_isI1, q_isA1, q_hs0, q_hsn, q_hsi, q_hsr, q_hss, q_inc1, List.set_cons_zero, List.set_cons_succ, ↓reduceIte, q_ss0, q_ssi, q_ssr, q_nr0, q_nr10, q_nr11, q_tlS, q_tlN, q_cl, q_let, q_lef, q_ltt, q_ltf, q_eqt, q_eqf, q_add, q_mul, Nat.reduceAdd, Nat.reduceLeDiff, Nat.reduceEqDiff, eq_self, Nat.zero_le, Nat.le_refl, not_false_eq_true, not_true_eq_false, true_and, and_true, and_self, if_true, if_false, p1.o, c1, c2, c4, cl167 h167]
    exact hQ
  rw [if_neg c3, if_neg c3] at hQ
  have c4 : Int32.ofInt (-1) ≤ y := Int32.not_lt.mp c3
  obtain ⟨k, hk, hK⟩ := hnY_lt p2 p3
  have gs := gS_lh p2
  have hA := gS_A gs
  have e7 : lhM M 0 7 = M 0 7 := lhM_0 (by decide)
  have hn : ∃ n, n ≤ 6 ∧ lhM M 0 3 = nI n := by rw [lhM_0 (by decide)]; exact p2.1
  have hhn : hnY (lhM M) = nI k := (hnY_of (lhM_0 (by decide)) (lhM_out (by decide) (by decide) (by decide) (by decide))).trans hK
  have pre : ∃ A nP k, gS (lhM M) A nP ∧ k < A ∧ hnY (lhM M) = nI k := ⟨_, _, k, gs, hk, hhn⟩
  have ep : (nI 1 <<< (M 0 7 &&& 31)) - nI 1 = epY M := rfl
  have gi0 := gI_gt0 gs hk hhn
  have gi := (gIS_gt (x := x) (y := epY M) 4097 0 _ gi0.1 gi0.2).2.2
  have eg : gtF x (epY M) 4097 0 (gt0 (lhM M)) = gtM (lhM M) x (epY M) := rfl
  rw [eg] at gi
  have gc := gC_gtM (x := x) (y := epY M) gs hk hhn
  simp (disch := first | assumption | omega) only [e188_0, e188_1, e188_2, e188_5, e188_8, e188_9, e188_10, e188_15, e188_16, e188_19, e188_20, e188_21, e188_22, e188_25, e188_28, q_gv0, q_gvs, q_isI1, q_isA1, q_hs0, q_hsn, q_hsi, q_hsr, q_hss, q_inc1, List.set_cons_zero, List.set_cons_succ, ↓reduceIte, q_ss0, q_ssi, q_ssr, q_nr0, q_nr10, q_nr11, q_tlS, q_tlN, q_cl, q_let, q_lef, q_ltt, q_ltf, q_eqt, q_eqf, q_add, q_mul, Nat.reduceAdd, Nat.reduceLeDiff, Nat.reduceEqDiff, eq_self, Nat.zero_le, Nat.le_refl, not_false_eq_true, not_true_eq_false, true_and, and_true, and_self, if_true, if_false, p1.o, c1, c2, c4, cl167 h167, cl169 h169, cl176 h176, e7, ep, cl179 h179]
  generalize gtM (lhM M) x (epY M) = R at *
  obtain ⟨r1, r2⟩ := R
  dsimp only at *
  unfold fwY at hQ
  dsimp only at hQ
  rcases gi with rfl | ⟨i, e, he, rfl, hi2, hi⟩
  · rw [if_pos rfl] at hQ
    simp (disch := first | assumption | omega) only [e188_29, e188_30, e188_32, e188_35, e188_37, q_gv0, q_gvs, q_isI1, q_isA1, q_hs0, q_hsn, q_hsi, q_hsr, q_hss, q_inc1, List.set_cons_zero, List.set_cons_succ, ↓reduceIte, q_ss0, q_ssi, q_ssr, q_nr0, q_nr10, q_nr11, q_tlS, q_tlN, q_cl, q_let, q_lef, q_ltt, q_ltf, q_eqt, q_eqf, q_add, q_mul, Nat.reduceAdd, Nat.reduceLeDiff, Nat.reduceEqDiff, eq_self, Nat.zero_le, Nat.le_refl, not_false_eq_true, not_true_eq_false, true_and, and_true, and_self, if_true, if_false]
    exact hQ
  have e4 := nI_m4 (show e < 2147483648 by omega)
  rw [if_neg e4, q_cl (show e < 2147483648 by omega)] at hQ
  have w1 := wnY_le r2 4097 e
  have i4 : i < 4097 := by
    obtain ⟨l, g1, g2, -⟩ := gc
    rw [g1, q_cl (by omega)] at hi
    omega
  simp (disch := first | assumption | omega) only [e188_29, e188_30, e188_32, e188_38, e188_39, e188_41, e188_42, q_gv0, q_gvs, q_isI1, q_isA1, q_hs0, q_hsn, q_hsi, q_hsr, q_hss, q_inc1, List.set_cons_zero, List.set_cons_succ, ↓reduceIte, q_ss0, q_ssi, q_ssr, q_nr0, q_nr10, q_nr11, q_tlS, q_tlN, q_cl, q_let, q_lef, q_ltt, q_ltf, q_eqt, q_eqf, q_add, q_mul, Nat.reduceAdd, Nat.reduceLeDiff, Nat.reduceEqDiff, eq_self, Nat.zero_le, Nat.le_refl, not_false_eq_true, not_true_eq_false, true_and, and_true, and_self, if_true, if_false, e4]
  refine lp188a p1 gc hA i e 4097 0 none hi hi2 (by omega) i4 (fun v => ?_)
  rw [Nat.zero_add]
  by_cases c5 : y = Int32.ofInt (-1)
  · rw [if_pos c5] at hQ
    subst c5
    have y0 : Int32.ofInt (-1) < nI 0 := by decide
    have y1 : ¬ nI 0 ≤ Int32.ofInt (-1) := by decide
    simp (disch := first | assumption | omega) only [e188_71, e188_72, e188_75, e188_76, e188_78, e188_81, e188_82, e188_85, e188_87, e188_92, q_gv0, q_gvs, q_isI1, q_isA1, q_hs0, q_hsn, q_hsi, q_hsr, q_hss, q_inc1, List.set_cons_zero, List.set_cons_succ, ↓reduceIte, q_ss0, q_ssi, q_ssr, q_nr0, q_nr10, q_nr11, q_tlS, q_tlN, q_cl, q_let, q_lef, q_ltt, q_ltf, q_eqt, q_eqf, q_add, q_mul, Nat.reduceAdd, Nat.reduceLeDiff, Nat.reduceEqDiff, eq_self, Nat.zero_le, Nat.le_refl, not_false_eq_true, not_true_eq_false, true_and, and_true, and_self, if_true, if_false, y0, y1]
    exact hQ
  rw [if_neg c5] at hQ
  obtain ⟨j, hj, rfl⟩ := m1c y c3 c5
  rw [q_cl hj] at hQ
  by_cases c6 : j < wnY r2 4097 e
  · rw [if_pos ((nI_ltI hj (by omega)).mpr c6)] at hQ
    have em : wnY r2 4097 e - 1 = j + (wnY r2 4097 e - 1 - j) := by omega
    simp (disch := first | assumption | omega) only [e188_71, e188_72, e188_75, e188_76, e188_78, e188_93, e188_94, e188_96, e188_98, e188_99, e188_100, q_gv0, q_gvs, q_isI1, q_isA1, q_hs0, q_hsn, q_hsi, q_hsr, q_hss, q_inc1, List.set_cons_zero, List.set_cons_succ, ↓reduceIte, q_ss0, q_ssi, q_ssr, q_nr0, q_nr10, q_nr11, q_tlS, q_tlN, q_cl, q_let, q_lef, q_ltt, q_ltf, q_eqt, q_eqf, q_add, q_mul, Nat.reduceAdd, Nat.reduceLeDiff, Nat.reduceEqDiff, eq_self, Nat.zero_le, Nat.le_refl, not_false_eq_true, not_true_eq_false, true_and, and_true, and_self, if_true, if_false, q_sub]
    rw [em]
    refine lp188b p1 gc hA (show j < 10000 by omega) (wnY r2 4097 e - 1 - j) i e 4097 hi hi2 (by omega) (by omega) (by omega) (fun b z hb hb2 => ?_)
    obtain ⟨d, hd1, hd2, rfl⟩ := hb
    rw [hd2, q_cl (show b < 2147483648 by omega)] at hQ
    simp (disch := first | assumption | omega) only [e188_0, e188_1, e188_2, e188_5, e188_8, e188_9, e188_10, e188_13, e188_14, e188_15, e188_16, e188_19, e188_20, e188_21, e188_22, e188_25, e188_28, e188_29, e188_30, e188_32, e188_35, e188_37, e188_38, e188_39, e188_41, e188_42, e188_45, e188_48, e188_50, e188_51, e188_53, e188_56, e188_59, e188_60, e188_63, e188_65, e188_66, e188_68, e188_71, e188_72, e188_75, e188_76, e188_78, e188_81, e188_82, e188_85, e188_87, e188_90, e188_92, e188_93, e188_94, e188_96, e188_98, e188_99, e188_100, e188_104, e188_105, e188_108, e188_109, e188_112, e188_114, e188_115, e188_117, e188_120, e188_123, e188_125, e188_126, e188_129, e188_131, e188_132, e188_133, e188_134, e188_135, e188_136, e188_139, e188_141, e188_142, e188_143, e188_144, e188_145, q_gv0, q_gvs, q_isI1, q_isA1, q_hs0, q_hsn, q_hsi, q_hsr, q_hss, q_inc1, List.set_cons_zero, List.set_cons_succ, ↓reduceIte, q_ss0, q_ssi, q_ssr, q_nr0, q_nr10, q_nr11, q_tlS, q_tlN, q_cl, q_let, q_lef, q_ltt, q_ltf, q_eqt, q_eqf, q_add, q_mul, Nat.reduceAdd, Nat.reduceLeDiff, Nat.reduceEqDiff, eq_self, Nat.zero_le, Nat.le_refl, not_false_eq_true, not_true_eq_false, true_and, and_true, and_self, if_true, if_false, p1.g34, p1.l20, hd2, q_div, q_rem]
    exact hQ
  · rw [if_neg (fun z => c6 ((nI_ltI hj (by omega)).mp z))] at hQ
    simp (disch := first | assumption | omega) only [e188_71, e188_72, e188_75, e188_76, e188_78, e188_81, e188_82, e188_90, e188_92, q_gv0, q_gvs, q_isI1, q_isA1, q_hs0, q_hsn, q_hsi, q_hsr, q_hss, q_inc1, List.set_cons_zero, List.set_cons_succ, ↓reduceIte, q_ss0, q_ssi, q_ssr, q_nr0, q_nr10, q_nr11, q_tlS, q_tlN, q_cl, q_let, q_lef, q_ltt, q_ltf, q_eqt, q_eqf, q_add, q_mul, Nat.reduceAdd, Nat.reduceLeDiff, Nat.reduceEqDiff, eq_self, Nat.zero_le, Nat.le_refl, not_false_eq_true, not_true_eq_false, true_and, and_true, and_self, if_true, if_false]
    exact hQ
/-- needs: over the sets from s on, the best so far -/
def ndZ (x : Int32) : Nat → Nat → Int32 → mv_Mem → Int32 × mv_Mem
  | 0, _, b, M => (b, M)
  | n + 1, s, b, M => if b = Int32.ofInt (-4) ∨ btN s < btN b.toNatClampNeg then (if (gtM M x (nI s)).1 = Int32.ofInt (-4) then ndZ x n (s + 1) b (gtM M x (nI s)).2 else ndZ x n (s + 1) (nI s) (gtM M x (nI s)).2) else ndZ x n (s + 1) b M
theorem cr175 {S : Nat → mv_Sp} (h : S 175 = sp175) {sh : mv_Shp} {M : mv_Mem} {k : Nat} {K : mv_Kt} {pc : Nat} {L : mv_Loc} {st : List Value} {c s : Nat} (hk : k < 64) :
    mv_kal S 175 [.int (nI k)] sh M K pc L st c s = K pc L ((some (.int (nI (btN k)))).toList ++ st) sh M c s := by
  rw [cl175 h trivial, btI_N ⟨k, hk⟩]
theorem lp200 {S : Nat → mv_Sp} (h175 : S 175 = sp175) (h176 : S 176 = sp176) (h179 : S 179 = sp179) {sh : mv_Shp} {P : mv_Post} {A nP k : Nat} {x : Int32} (p1 : oM sh) (hk : k < A) (hP6 : nP ≤ 6) :
    ∀ n s (b : Int32) (M : mv_Mem) z, s + n = 2 ^ nP → (b = Int32.ofInt (-4) ∨ ∃ q, q < 64 ∧ b = nI q) → gS M A nP → hnY M = nI k → (∃ n, n ≤ 6 ∧ M 0 3 = nI n) → P (some (.int (ndZ x n s b M).1)) sh (ndZ x n s b M).2 →
      mr200 S P 19 [some (.ref 0), some (.int x), some (.int b), some (.int (nI s)), z] [] sh M 0 0
  | 0, s, b, M, z, e, hb, g, hh, hn, hQ => by
    obtain rfl : s = 2 ^ nP := by omega
    have ap := allP ⟨nP, by omega⟩
    have ap1 : (nI 1 <<< (nI nP &&& 31)) - nI 1 = nI (2 ^ nP - 1) := ap.1
    have ap2 : 2 ^ nP ≤ 64 := ap.2
    have ap3 : 0 < 2 ^ nP := Nat.two_pow_pos nP
    have g7 := g.2.2.1
    rw [e200_19]
    simp (disch := first | assumption | omega) only [e200_0, e200_1, e200_2, e200_5, e200_8, e200_9, e200_10, e200_12, e200_13, e200_14, e200_17, e200_18, e200_20, e200_21, e200_24, e200_27, e200_28, e200_30, e200_33, e200_34, e200_37, e200_38, e200_41, e200_44, e200_45, e200_48, e200_49, e200_51, e200_53, e200_56, e200_57, e200_58, e200_59, e200_62, e200_64, e200_67, e200_68, e200_71, e200_72, e200_73, e200_76, e200_79, e200_80, q_gv0, q_gvs, q_isI1, q_isA1, q_hs0, q_hsn, q_hsi, q_hsr, q_hss, q_inc1, List.set_cons_zero, List.set_cons_succ, ↓reduceIte, q_ss0, q_ssi, q_ssr, q_nr0, q_nr10, q_nr11, q_tlS, q_tlN, q_cl, q_let, q_lef, q_ltt, q_ltf, q_eqt, q_eqf, q_add, q_mul, Nat.reduceAdd, Nat.reduceLeDiff, Nat.reduceEqDiff, eq_self, Nat.zero_le, Nat.le_refl, not_false_eq_true, not_true_eq_false, true_and, and_true, and_self, if_true, if_false, p1.o, cl176 h176, g7, ap1]
    exact hQ
  | n + 1, s, b, M, z, e, hb, g, hh, hn, hQ => by
    have ap := allP ⟨nP, by omega⟩
    have ap1 : (nI 1 <<< (nI nP &&& 31)) - nI 1 = nI (2 ^ nP - 1) := ap.1
    have ap2 : 2 ^ nP ≤ 64 := ap.2
    have s64 : s < 64 := by omega
    have g7 := g.2.2.1
    have pre : ∃ A nP k, gS M A nP ∧ k < A ∧ hnY M = nI k := ⟨A, nP, k, g, hk, hh⟩
    have gi0 := gI_gt0 g hk hh
    have gi := gIS_gt (x := x) (y := nI s) 4097 0 _ gi0.1 gi0.2
    have eg : gtF x (nI s) 4097 0 (gt0 M) = gtM M x (nI s) := rfl
    rw [eg] at gi
    have hh2 : hnY (gtM M x (nI s)).2 = nI k := (hnY_of (gtM_0 (by decide)) (gtM_out (by decide) (by decide) (by decide) (by decide))).trans hh
    have hn2 : ∃ n, n ≤ 6 ∧ (gtM M x (nI s)).2 0 3 = nI n := by rw [gtM_0 (by decide)]; exact hn
    have bs := btN_lt s
    unfold ndZ at hQ
    rw [e200_19]
    rcases hb with rfl | ⟨q, hq, rfl⟩
    · rw [if_pos (Or.inl rfl)] at hQ
      by_cases c : (gtM M x (nI s)).1 = Int32.ofInt (-4)
      · rw [if_pos c] at hQ
        simp (disch := first | assumption | omega) only [e200_0, e200_1, e200_2, e200_5, e200_8, e200_9, e200_10, e200_12, e200_13, e200_14, e200_17, e200_18, e200_20, e200_21, e200_24, e200_27, e200_28, e200_30, e200_33, e200_34, e200_37, e200_38, e200_41, e200_44, e200_45, e200_48, e200_49, e200_51, e200_53, e200_56, e200_57, e200_58, e200_59, e200_62, e200_64, e200_67, e200_68, e200_71, e200_72, e200_73, e200_76, e200_79, e200_80, q_gv0, q_gvs, q_isI1, q_isA1, q_hs0, q_hsn, q_hsi, q_hsr, q_hss, q_inc1, List.set_cons_zero, List.set_cons_succ, ↓reduceIte, q_ss0, q_ssi, q_ssr, q_nr0, q_nr10, q_nr11, q_tlS, q_tlN, q_cl, q_let, q_lef, q_ltt, q_ltf, q_eqt, q_eqf, q_add, q_mul, Nat.reduceAdd, Nat.reduceLeDiff, Nat.reduceEqDiff, eq_self, Nat.zero_le, Nat.le_refl, not_false_eq_true, not_true_eq_false, true_and, and_true, and_self, if_true, if_false, p1.o, cl176 h176, g7, ap1, cl179 h179, c]
        exact lp200 h175 h176 h179 p1 hk hP6 n (s + 1) _ _ _ (by omega) (Or.inl rfl) gi.1 hh2 hn2 hQ
      · rw [if_neg c] at hQ
        simp (disch := first | assumption | omega) only [e200_0, e200_1, e200_2, e200_5, e200_8, e200_9, e200_10, e200_12, e200_13, e200_14, e200_17, e200_18, e200_20, e200_21, e200_24, e200_27, e200_28, e200_30, e200_33, e200_34, e200_37, e200_38, e200_41, e200_44, e200_45, e200_48, e200_49, e200_51, e200_53, e200_56, e200_57, e200_58, e200_59, e200_62, e200_64, e200_67, e200_68, e200_71, e200_72, e200_73, e200_76, e200_79, e200_80, q_gv0, q_gvs, q_isI1, q_isA1, q_hs0, q_hsn, q_hsi, q_hsr, q_hss, q_inc1, List.set_cons_zero, List.set_cons_succ, ↓reduceIte, q_ss0, q_ssi, q_ssr, q_nr0, q_nr10, q_nr11, q_tlS, q_tlN, q_cl, q_let, q_lef, q_ltt, q_ltf, q_eqt, q_eqf, q_add, q_mul, Nat.reduceAdd, Nat.reduceLeDiff, Nat.reduceEqDiff, eq_self, Nat.zero_le, Nat.le_refl, not_false_eq_true, not_true_eq_false, true_and, and_true, and_self, if_true, if_false, p1.o, cl176 h176, g7, ap1, cl179 h179, c]
        exact lp200 h175 h176 h179 p1 hk hP6 n (s + 1) _ _ _ (by omega) (Or.inr ⟨s, s64, rfl⟩) gi.1 hh2 hn2 hQ
    · have q4 := nI_m4 (show q < 2147483648 by omega)
      have bq := btN_lt q
      rw [q_cl (show q < 2147483648 by omega)] at hQ
      by_cases c0 : btN s < btN q
      · rw [if_pos (Or.inr c0)] at hQ
        by_cases c : (gtM M x (nI s)).1 = Int32.ofInt (-4)
        · rw [if_pos c] at hQ
          simp (disch := first | assumption | omega) only [e200_0, e200_1, e200_2, e200_5, e200_8, e200_9, e200_10, e200_12, e200_13, e200_14, e200_17, e200_18, e200_20, e200_21, e200_24, e200_27, e200_28, e200_30, e200_33, e200_34, e200_37, e200_38, e200_41, e200_44, e200_45, e200_48, e200_49, e200_51, e200_53, e200_56, e200_57, e200_58, e200_59, e200_62, e200_64, e200_67, e200_68, e200_71, e200_72, e200_73, e200_76, e200_79, e200_80, q_gv0, q_gvs, q_isI1, q_isA1, q_hs0, q_hsn, q_hsi, q_hsr, q_hss, q_inc1, List.set_cons_zero, List.set_cons_succ, ↓reduceIte, q_ss0, q_ssi, q_ssr, q_nr0, q_nr10, q_nr11, q_tlS, q_tlN, q_cl, q_let, q_lef, q_ltt, q_ltf, q_eqt, q_eqf, q_add, q_mul, Nat.reduceAdd, Nat.reduceLeDiff, Nat.reduceEqDiff, eq_self, Nat.zero_le, Nat.le_refl, not_false_eq_true, not_true_eq_false, true_and, and_true, and_self, if_true, if_false, p1.o, cl176 h176, g7, ap1, q4, cr175 h175, cl179 h179, c]
          exact lp200 h175 h176 h179 p1 hk hP6 n (s + 1) _ _ _ (by omega) (Or.inr ⟨q, hq, rfl⟩) gi.1 hh2 hn2 hQ
        · rw [if_neg c] at hQ
          simp (disch := first | assumption | omega) only [e200_0, e200_1, e200_2, e200_5, e200_8, e200_9, e200_10, e200_12, e200_13, e200_14, e200_17, e200_18, e200_20, e200_21, e200_24, e200_27, e200_28, e200_30, e200_33, e200_34, e200_37, e200_38, e200_41, e200_44, e200_45, e200_48, e200_49, e200_51, e200_53, e200_56, e200_57, e200_58, e200_59, e200_62, e200_64, e200_67, e200_68, e200_71, e200_72, e200_73, e200_76, e200_79, e200_80, q_gv0, q_gvs, q_isI1, q_isA1, q_hs0, q_hsn, q_hsi, q_hsr, q_hss, q_inc1, List.set_cons_zero, List.set_cons_succ, ↓reduceIte, q_ss0, q_ssi, q_ssr, q_nr0, q_nr10, q_nr11, q_tlS, q_tlN, q_cl, q_let, q_lef, q_ltt, q_ltf, q_eqt, q_eqf, q_add, q_mul, Nat.reduceAdd, Nat.reduceLeDiff, Nat.reduceEqDiff, eq_self, Nat.zero_le, Nat.le_refl, not_false_eq_true, not_true_eq_false, true_and, and_true, and_self, if_true, if_false, p1.o, cl176 h176, g7, ap1, q4, cr175 h175, cl179 h179, c]
          exact lp200 h175 h176 h179 p1 hk hP6 n (s + 1) _ _ _ (by omega) (Or.inr ⟨s, s64, rfl⟩) gi.1 hh2 hn2 hQ
      · rw [if_neg (fun z => z.elim q4 c0)] at hQ
        simp (disch := first | assumption | omega) only [e200_0, e200_1, e200_2, e200_5, e200_8, e200_9, e200_10, e200_12, e200_13, e200_14, e200_17, e200_18, e200_20, e200_21, e200_24, e200_27, e200_28, e200_30, e200_33, e200_34, e200_37, e200_38, e200_41, e200_44, e200_45, e200_48, e200_49, e200_51, e200_53, e200_56, e200_57, e200_58, e200_59, e200_62, e200_64, e200_67, e200_68, e200_71, e200_72, e200_73, e200_76, e200_79, e200_80, q_gv0, q_gvs, q_isI1, q_isA1, q_hs0, q_hsn, q_hsi, q_hsr, q_hss, q_inc1, List.set_cons_zero, List.set_cons_succ, ↓reduceIte, q_ss0, q_ssi, q_ssr, q_nr0, q_nr10, q_nr11, q_tlS, q_tlN, q_cl, q_let, q_lef, q_ltt, q_ltf, q_eqt, q_eqf, q_add, q_mul, Nat.reduceAdd, Nat.reduceLeDiff, Nat.reduceEqDiff, eq_self, Nat.zero_le, Nat.le_refl, not_false_eq_true, not_true_eq_false, true_and, and_true, and_self, if_true, if_false, p1.o, cl176 h176, g7, ap1, q4, cr175 h175]
        exact lp200 h175 h176 h179 p1 hk hP6 n (s + 1) _ _ _ (by omega) (Or.inr ⟨q, hq, rfl⟩) g hh hn hQ
def ndW (M : mv_Mem) (x : Int32) : Int32 × mv_Mem := ndZ x (2 ^ (M 0 7).toNatClampNeg) 0 (Int32.ofInt (-4)) (lhM M)
def sp200 : mv_Sp := fun As sh M Q => ∃ (x : Int32), As = [.ref 0, .int x] ∧ ((oM sh) ∧ (gM M) ∧ (cY M 0)) ∧ Q (some (.int (if x < nI 0 then Int32.ofInt (-1) else if nI (10 ^ (M 0 3).toNatClampNeg) ≤ x then Int32.ofInt (-1) else (ndW M x).1))) (sh) (if x < nI 0 then M else if nI (10 ^ (M 0 3).toNatClampNeg) ≤ x then M else (ndW M x).2)
theorem cl200 {S : Nat → mv_Sp} (hS : S 200 = sp200) {sh : mv_Shp} {M : mv_Mem} {x : Int32} (p1 : oM sh) (p2 : gM M) (p3 : cY M 0) {K : mv_Kt} {pc : Nat} {L : mv_Loc} {st : List Value} {cc_ ss_ : Nat} : mv_kal S 200 [.ref 0, .int x] sh M K pc L st cc_ ss_ = K pc L ((some (.int (if x < nI 0 then Int32.ofInt (-1) else if nI (10 ^ (M 0 3).toNatClampNeg) ≤ x then Int32.ofInt (-1) else (ndW M x).1)) : Option Value).toList ++ st) (sh) (if x < nI 0 then M else if nI (10 ^ (M 0 3).toNatClampNeg) ≤ x then M else (ndW M x).2) cc_ ss_ := by
  refine q_kal (fun F => q_cali (fun Q => ?_))
  rw [hS]
  constructor
  · rintro ⟨x', hE, ⟨zp1, zp2, zp3⟩, hQ⟩
    simp only [List.cons.injEq, Value.ref.injEq, Value.int.injEq, Value.long.injEq, and_true, true_and] at hE
    subst hE
    exact hQ
  · intro hQ
    exact ⟨x, rfl, ⟨p1, p2, p3⟩, hQ⟩
theorem ct200 {S : Nat → mv_Sp} (h167 : S 167 = sp167) (h169 : S 169 = sp169) (h175 : S 175 = sp175) (h176 : S 176 = sp176) (h179 : S 179 = sp179) : ∀ As sh M P, sp200 As sh M P → (mv_al0 As).length ≤ 5 ∧ mr200 S P 0 (mv_ent As 5) [] sh M 0 0 := by
  rintro As sh M P ⟨x, rfl, ⟨p1, p2, p3⟩, hQ⟩
  refine ⟨Nat.le_of_ble_eq_true rfl, ?_⟩
  show mr200 S P 0 [some (.ref 0), some (.int x), none, none, none] [] sh M 0 0
  have hn0 : ∃ n, n ≤ 6 ∧ M 0 3 = nI n := p2.1
  by_cases c1 : x < nI 0
  · rw [if_pos c1, if_pos c1] at hQ
    simp (disch := first | assumption | omega) only [e200_0, e200_1, e200_2, e200_5, e200_8, e200_9, e200_10, e200_12, e200_13, e200_14, e200_17, e200_18, e200_20, e200_21, e200_24, e200_27, e200_28, e200_30, e200_33, e200_34, e200_37, e200_38, e200_41, e200_44, e200_45, e200_48, e200_49, e200_51, e200_53, e200_56, e200_57, e200_58, e200_59, e200_62, e200_64, e200_67, e200_68, e200_71, e200_72, e200_73, e200_76, e200_79, e200_80, q_gv0, q_gvs, q_isI1, q_isA1, q_hs0, q_hsn, q_hsi, q_hsr, q_hss, q_inc1, List.set_cons_zero, List.set_cons_succ, ↓reduceIte, q_ss0, q_ssi, q_ssr, q_nr0, q_nr10, q_nr11, q_tlS, q_tlN, q_cl, q_let, q_lef, q_ltt, q_ltf, q_eqt, q_eqf, q_add, q_mul, Nat.reduceAdd, Nat.reduceLeDiff, Nat.reduceEqDiff, eq_self, Nat.zero_le, Nat.le_refl, not_false_eq_true, not_true_eq_false, true_and, and_true, and_self, if_true, if_false, p1.o, c1, cl167 h167]
    exact hQ
  rw [if_neg c1, if_neg c1] at hQ
  by_cases c2 : nI (10 ^ (M 0 3).toNatClampNeg) ≤ x
  · rw [if_pos c2, if_pos c2] at hQ
    simp (disch := first | assumption | omega) only [e200_0, e200_1, e200_2, e200_5, e200_8, e200_9, e200_10, e200_12, e200_13, e200_14, e200_17, e200_18, e200_20, e200_21, e200_24, e200_27, e200_28, e200_30, e200_33, e200_34, e200_37, e200_38, e200_41, e200_44, e200_45, e200_48, e200_49, e200_51, e200_53, e200_56, e200_57, e200_58, e200_59, e200_62, e200_64, e200_67, e200_68, e200_71, e200_72, e200_73, e200_76, e200_79, e200_80, q_gv0, q_gvs, q_isI1, q_isA1, q_hs0, q_hsn, q_hsi, q_hsr, q_hss, q_inc1, List.set_cons_zero, List.set_cons_succ, ↓reduceIte, q_ss0, q_ssi, q_ssr, q_nr0, q_nr10, q_nr11, q_tlS, q_tlN, q_cl, q_let, q_lef, q_ltt, q_ltf, q_eqt, q_eqf, q_add, q_mul, Nat.reduceAdd, Nat.reduceLeDiff, Nat.reduceEqDiff, eq_self, Nat.zero_le, Nat.le_refl, not_false_eq_true, not_true_eq_false, true_and, and_true, and_self, if_true, if_false, p1.o, c1, c2, cl167 h167]
    exact hQ
  rw [if_neg c2, if_neg c2] at hQ
  obtain ⟨k, hk, hK⟩ := hnY_lt p2 p3
  have gs := gS_lh p2
  have hhn : hnY (lhM M) = nI k := (hnY_of (lhM_0 (by decide)) (lhM_out (by decide) (by decide) (by decide) (by decide))).trans hK
  simp (disch := first | assumption | omega) only [e200_0, e200_1, e200_2, e200_5, e200_8, e200_9, e200_10, e200_12, e200_13, e200_14, e200_17, e200_18, e200_20, e200_21, e200_24, e200_27, e200_28, e200_30, e200_33, e200_34, e200_37, e200_38, e200_41, e200_44, e200_45, e200_48, e200_49, e200_51, e200_53, e200_56, e200_57, e200_58, e200_59, e200_62, e200_64, e200_67, e200_68, e200_71, e200_72, e200_73, e200_76, e200_79, e200_80, q_gv0, q_gvs, q_isI1, q_isA1, q_hs0, q_hsn, q_hsi, q_hsr, q_hss, q_inc1, List.set_cons_zero, List.set_cons_succ, ↓reduceIte, q_ss0, q_ssi, q_ssr, q_nr0, q_nr10, q_nr11, q_tlS, q_tlN, q_cl, q_let, q_lef, q_ltt, q_ltf, q_eqt, q_eqf, q_add, q_mul, Nat.reduceAdd, Nat.reduceLeDiff, Nat.reduceEqDiff, eq_self, Nat.zero_le, Nat.le_refl, not_false_eq_true, not_true_eq_false, true_and, and_true, and_self, if_true, if_false, p1.o, c1, c2, cl167 h167, cl169 h169]
  exact lp200 h175 h176 h179 p1 hk gs.2.2.2.1 _ 0 _ _ none (Nat.zero_add _) (Or.inl rfl) gs hhn (by rw [lhM_0 (by decide)]; exact p2.1) hQ
