/-! the model: slips -/
/-- how often of ten^.. tablet t does as the slips s say -/
def slC (M : mv_Mem) (p s t x : Nat) : Nat := if M 5 p >>> (nI t &&& 31) &&& nI 1 = nI 1 then (if nI s >>> (nI t &&& 31) &&& nI 1 = nI 1 then x else 10 - x) else 1
def slH (M : mv_Mem) (p s x : Nat) : Nat → Nat
  | 0 => if nI s &&& (M 5 p ^^^ Int32.ofInt (-1)) = nI 0 then 1 else 0
  | t + 1 => slH M p s x t * slC M p s t x
def slN (M N : mv_Mem) (p w s t : Nat) : mv_Mem := if M 5 p >>> (nI t &&& 31) &&& nI 1 = nI 1 then (if nI s >>> (nI t &&& 31) &&& nI 1 = nI 1 then N else (if ocF (N 2 t).toNatClampNeg w (N 1 (8789 + 12 + t)) (N 0 9) = 0 then tyM N 8789 t (qf (N 2 t).toNatClampNeg w) else N)) else N
def slT (M N : mv_Mem) (p w s : Nat) : Nat → mv_Mem
  | 0 => N
  | t + 1 => slN M (slT M N p w s t) p w s t
/-- the memory behind the slips below s, begun with N -/
def sqM (M N : mv_Mem) (p w nT : Nat) : Nat → mv_Mem
  | 0 => N
  | s + 1 => slT M (cpY (sqM M N p w nT s) 0 8789 799) p w s nT
def slA (M N : mv_Mem) (p w nT x : Nat) (due : Int32) : Nat → Nat
  | 0 => 0
  | s + 1 => slA M N p w nT x due s + (if coY (sqM M N p w nT (s + 1)) 8789 = due then slH M p s x nT else 0)
def slD (M : mv_Mem) (p nT x : Nat) : Nat → Nat
  | 0 => 0
  | s + 1 => slD M p nT x s + slH M p s x nT
theorem slN_out {M N : mv_Mem} {p w s t c : Nat} (h : ¬ c = 1) : slN M N p w s t c = N c := by
  unfold slN tyM
  split
  · split
    · rfl
    · split
      · rw [q_upO h, q_upO h, q_upO h]
      · rfl
  · rfl
theorem slN_at {M N : mv_Mem} {p w s t j : Nat} (h1 : ¬ j = 8789 + 6 + t) (h2 : ¬ j = 8789 + 12 + t) (h3 : ¬ j = 8789 + 24 + t) : slN M N p w s t 1 j = N 1 j := by
  unfold slN tyM
  split
  · split
    · rfl
    · split
      · rw [q_upN (by omega), q_upN (by omega), q_upN (by omega)]
      · rfl
  · rfl
theorem slT_out {M N : mv_Mem} {p w s c : Nat} (h : ¬ c = 1) : ∀ t, slT M N p w s t c = N c
  | 0 => rfl
  | t + 1 => (slN_out h).trans (slT_out h t)
theorem slT_lo {M N : mv_Mem} {p w s j : Nat} (h : j < 8789) : ∀ t, slT M N p w s t 1 j = N 1 j
  | 0 => rfl
  | t + 1 => (slN_at (by omega) (by omega) (by omega)).trans (slT_lo h t)
theorem sqM_out {M N : mv_Mem} {p w nT c : Nat} (h : ¬ c = 1) : ∀ s, sqM M N p w nT s c = N c
  | 0 => rfl
  | s + 1 => by
    unfold sqM
    rw [slT_out h, cpY_out h]
    exact sqM_out h s
theorem sqM_lo {M N : mv_Mem} {p w nT j : Nat} (h : j < 8789) : ∀ s, sqM M N p w nT s 1 j = N 1 j
  | 0 => rfl
  | s + 1 => by
    unfold sqM
    rw [slT_lo h, cpY_at (Or.inl h)]
    exact sqM_lo h s
theorem slC_le {M : mv_Mem} {p s t x : Nat} (hx : x ≤ 10) : slC M p s t x ≤ 10 := by
  unfold slC
  split
  · split <;> omega
  · omega
theorem slH_le {M : mv_Mem} {p s x : Nat} (hx : x ≤ 10) : ∀ t, slH M p s x t ≤ 10 ^ t
  | 0 => by
    unfold slH
    split <;> simp
  | t + 1 => by
    unfold slH
    rw [Nat.pow_succ]
    exact Nat.mul_le_mul (slH_le hx t) (slC_le hx)
theorem slD_le {M : mv_Mem} {p nT x : Nat} (hx : x ≤ 10) (hn : nT ≤ 6) : ∀ s, slD M p nT x s ≤ s * 1000000
  | 0 => Nat.le_refl _
  | s + 1 => by
    have := slD_le (M := M) (p := p) hx hn s
    have h2 := slH_le (M := M) (p := p) (s := s) hx nT
    have h3 := pw6 nT hn
    unfold slD
    omega
theorem slA_le {M N : mv_Mem} {p w nT x : Nat} {due : Int32} (hx : x ≤ 10) (hn : nT ≤ 6) : ∀ s, slA M N p w nT x due s ≤ s * 1000000
  | 0 => Nat.le_refl _
  | s + 1 => by
    have := slA_le (M := M) (N := N) (p := p) (w := w) (due := due) hx hn s
    have h2 := slH_le (M := M) (p := p) (s := s) hx nT
    have h3 := pw6 nT hn
    unfold slA
    rw [Nat.succ_mul]
    refine Nat.add_le_add this ?_
    split
    · exact Nat.le_trans h2 h3
    · exact Nat.zero_le _
/-- the trial's figures -/
theorem cY_slN {M N : mv_Mem} {p w s t : Nat} (hw : w < 2) (hG : gM N) (h : cY N 8789) (ht : t < (N 0 3).toNatClampNeg) : cY (slN M N p w s t) 8789 := by
  have h6 := gM6 hG
  unfold slN
  split
  · split
    · exact h
    · split
      · rename_i h0
        intro i hi
        have e3 : tyM N 8789 t (qf (N 2 t).toNatClampNeg w) 0 3 = N 0 3 := by unfold tyM; rw [q_upO (by decide), q_upO (by decide), q_upO (by decide)]
        rw [e3] at hi
        obtain ⟨k, hk4, hK⟩ := hG.2.2.2.2.1 t ht
        by_cases z : i = t
        · subst z
          unfold tyM
          refine ⟨?_, ?_, ?_⟩
          · rw [q_upN (by omega), q_upN (by omega), q_upS]
            exact pk_andE _ (m := nI 3) 2 (by decide)
          · rw [q_upN (by omega), q_upS]
            exact tw_turn (by rw [hK, q_cl (by omega)]; exact hk4) hw (h i hi).2.1 hG.2.2.1 h0
          · rw [q_upN (by omega), q_upN (by omega), q_upN (by omega)]
            exact (h i hi).2.2
        · unfold tyM
          rw [q_upN (by omega), q_upN (by omega), q_upN (by omega), q_upN (by omega), q_upN (by omega), q_upN (by omega), q_upN (by omega), q_upN (by omega), q_upN (by omega)]
          exact h i hi
      · exact h
  · exact h
theorem gM_slT {M N : mv_Mem} {p w s n : Nat} (h : gM N) : gM (slT M N p w s n) :=
  gM_of h (by rw [slT_out (by decide)]) (by rw [slT_out (by decide)]) (by rw [slT_out (by decide)]) (by rw [slT_out (by decide)]) (slT_out (by decide) _) (slT_out (by decide) _) (slT_out (by decide) _) (slT_out (by decide) _)
theorem cY_slT {M N : mv_Mem} {p w s : Nat} (hw : w < 2) (hG : gM N) (h : cY N 8789) : ∀ n, n ≤ (N 0 3).toNatClampNeg → cY (slT M N p w s n) 8789
  | 0, _ => h
  | n + 1, hn => by
    have ih := cY_slT (M := M) (p := p) (s := s) hw hG h n (by omega)
    exact cY_slN hw (gM_slT hG) ih (by rw [slT_out (by decide)]; omega)
theorem lp205i {S : Nat → mv_Sp} (h148 : S 148 = sp148) (h160 : S 160 = sp160) {sh : mv_Shp} {M N : mv_Mem} {P : mv_Post} {p w x s nT : Nat} {y u a b : Int32} (p1 : oM sh) (hp : p < 6) (hw : w < 2) (hx : x ≤ 10) (hs : s < 64) (hG : gM N) (hC : cY N 8789) (hT : N 0 3 = nI nT) (hT6 : nT ≤ 6) (h5 : N 5 = M 5)
    (hQ : ∀ z, mr205 S P 188 [some (.ref 0), some (.int (nI p)), some (.int (nI w)), some (.int (nI x)), some (.int y), some (.int u), some (.int a), some (.int b), some (.int (nI s)), some (.int (nI (slH M p s x nT))), z] [] sh (slT M N p w s nT) 0 0) :
    ∀ n t, t + n = nT → mr205 S P 115 [some (.ref 0), some (.int (nI p)), some (.int (nI w)), some (.int (nI x)), some (.int y), some (.int u), some (.int a), some (.int b), some (.int (nI s)), some (.int (nI (slH M p s x t))), some (.int (nI t))] [] sh (slT M N p w s t) 0 0
  | 0, t, h => by
    obtain rfl : t = nT := by omega
    have e0 : slT M N p w s t 0 3 = nI t := by rw [slT_out (by decide)]; exact hT
    rw [e205_115]
    simp (disch := first | assumption | omega) only [e205_117, e205_118, e205_121, q_gv0, q_gvs, q_isI1, q_isA1, q_hs0, q_hsn, q_hsi, q_hsr, q_hss, q_inc1, List.set_cons_zero, List.set_cons_succ, ↓reduceIte, q_ss0, q_ssi, q_ssr, q_nr0, q_nr10, q_nr11, q_tlS, q_tlN, q_cl, q_let, q_lef, q_ltt, q_ltf, q_eqt, q_eqf, q_add, q_mul, Nat.reduceAdd, Nat.reduceLeDiff, Nat.reduceEqDiff, eq_self, Nat.zero_le, Nat.le_refl, not_false_eq_true, not_true_eq_false, true_and, and_true, and_self, if_true, if_false, p1.g3, e0]
    exact hQ _
  | n + 1, t, h => by
    have ih := lp205i h148 h160 p1 hp hw hx hs hG hC hT hT6 h5 hQ n (t + 1) (by omega)
    have tT : t < (N 0 3).toNatClampNeg := by rw [hT, q_cl (by omega)]; omega
    have e0 : slT M N p w s t 0 3 = nI nT := by rw [slT_out (by decide)]; exact hT
    have e5 : slT M N p w s t 5 = M 5 := by rw [slT_out (by decide)]; exact h5
    have gN := gM_slT (M := M) (p := p) (w := w) (s := s) (n := t) hG
    have cN := cY_slT (M := M) (p := p) (s := s) hw hG hC t (by omega)
    have tT2 : t < (slT M N p w s t 0 3).toNatClampNeg := by rw [e0, q_cl (by omega)]; omega
    have t6 : t < 6 := by omega
    have t32 : t < 32 := by omega
    have k4 : ∃ k, k < 4 ∧ slT M N p w s t 2 t = nI k := gN.2.2.2.2.1 t tT2
    have tw := (cN t tT2).2.1
    have k9 := gN.2.2.1
    have l0 : 8789 + 799 ≤ 9588 := by decide
    have e1 : slT M N p w s (t + 1) = slN M (slT M N p w s t) p w s t := rfl
    have e2 : slH M p s x (t + 1) = slH M p s x t * slC M p s t x := rfl
    rw [e1, e2] at ih
    generalize slT M N p w s t = O at *
    generalize slH M p s x t = H at *
    unfold slN slC at ih
    rw [e205_115]
    by_cases c1 : M 5 p >>> (nI t &&& 31) &&& nI 1 = nI 1
    · rw [if_pos c1, if_pos c1] at ih
      by_cases c2 : nI s >>> (nI t &&& 31) &&& nI 1 = nI 1
      · rw [if_pos c2, if_pos c2] at ih
        simp (disch := first | assumption | omega) only [e205_117, e205_118, e205_121, e205_124, e205_125, e205_128, e205_129, e205_130, e205_132, e205_135, e205_138, e205_140, e205_142, e205_144, e205_147, e205_150, e205_151, e205_158, e205_159, e205_161, e205_163, e205_165, e205_168, e205_182, e205_185, q_gv0, q_gvs, q_isI1, q_isA1, q_hs0, q_hsn, q_hsi, q_hsr, q_hss, q_inc1, List.set_cons_zero, List.set_cons_succ, ↓reduceIte, q_ss0, q_ssi, q_ssr, q_nr0, q_nr10, q_nr11, q_tlS, q_tlN, q_cl, q_let, q_lef, q_ltt, q_ltf, q_eqt, q_eqf, q_add, q_mul, Nat.reduceAdd, Nat.reduceLeDiff, Nat.reduceEqDiff, eq_self, Nat.zero_le, Nat.le_refl, not_false_eq_true, not_true_eq_false, true_and, and_true, and_self, if_true, if_false, p1.g3, p1.g8, p1.l5, e0, e5, cl148 h148, c1, c2]
        exact ih
      · rw [if_neg c2, if_neg c2] at ih
        by_cases c3 : ocF (O 2 t).toNatClampNeg w (O 1 (8789 + 12 + t)) (O 0 9) = 0
        · rw [if_pos c3] at ih
          simp (disch := first | assumption | omega) only [e205_117, e205_118, e205_121, e205_124, e205_125, e205_128, e205_129, e205_130, e205_132, e205_135, e205_138, e205_140, e205_142, e205_144, e205_147, e205_154, e205_156, e205_157, e205_158, e205_159, e205_161, e205_163, e205_165, e205_168, e205_171, e205_172, e205_175, e205_177, e205_178, e205_181, e205_182, e205_185, q_gv0, q_gvs, q_isI1, q_isA1, q_hs0, q_hsn, q_hsi, q_hsr, q_hss, q_inc1, List.set_cons_zero, List.set_cons_succ, ↓reduceIte, q_ss0, q_ssi, q_ssr, q_nr0, q_nr10, q_nr11, q_tlS, q_tlN, q_cl, q_let, q_lef, q_ltt, q_ltf, q_eqt, q_eqf, q_add, q_mul, Nat.reduceAdd, Nat.reduceLeDiff, Nat.reduceEqDiff, eq_self, Nat.zero_le, Nat.le_refl, not_false_eq_true, not_true_eq_false, true_and, and_true, and_self, if_true, if_false, p1.o, p1.g3, p1.g8, p1.l5, e0, e5, cl148 h148, c1, c2, q_sub, cl160 h160, c3]
          exact ih
        · rw [if_neg c3] at ih
          simp (disch := first | assumption | omega) only [e205_117, e205_118, e205_121, e205_124, e205_125, e205_128, e205_129, e205_130, e205_132, e205_135, e205_138, e205_140, e205_142, e205_144, e205_147, e205_154, e205_156, e205_157, e205_158, e205_159, e205_161, e205_163, e205_165, e205_168, e205_171, e205_172, e205_175, e205_177, e205_178, e205_181, e205_182, e205_185, q_gv0, q_gvs, q_isI1, q_isA1, q_hs0, q_hsn, q_hsi, q_hsr, q_hss, q_inc1, List.set_cons_zero, List.set_cons_succ, ↓reduceIte, q_ss0, q_ssi, q_ssr, q_nr0, q_nr10, q_nr11, q_tlS, q_tlN, q_cl, q_let, q_lef, q_ltt, q_ltf, q_eqt, q_eqf, q_add, q_mul, Nat.reduceAdd, Nat.reduceLeDiff, Nat.reduceEqDiff, eq_self, Nat.zero_le, Nat.le_refl, not_false_eq_true, not_true_eq_false, true_and, and_true, and_self, if_true, if_false, p1.o, p1.g3, p1.g8, p1.l5, e0, e5, cl148 h148, c1, c2, q_sub, cl160 h160, c3]
          exact ih
    · rw [if_neg c1, if_neg c1, Nat.mul_one] at ih
      simp (disch := first | assumption | omega) only [e205_117, e205_118, e205_121, e205_124, e205_125, e205_128, e205_129, e205_130, e205_132, e205_135, e205_182, e205_185, q_gv0, q_gvs, q_isI1, q_isA1, q_hs0, q_hsn, q_hsi, q_hsr, q_hss, q_inc1, List.set_cons_zero, List.set_cons_succ, ↓reduceIte, q_ss0, q_ssi, q_ssr, q_nr0, q_nr10, q_nr11, q_tlS, q_tlN, q_cl, q_let, q_lef, q_ltt, q_ltf, q_eqt, q_eqf, q_add, q_mul, Nat.reduceAdd, Nat.reduceLeDiff, Nat.reduceEqDiff, eq_self, Nat.zero_le, Nat.le_refl, not_false_eq_true, not_true_eq_false, true_and, and_true, and_self, if_true, if_false, p1.g3, p1.g8, p1.l5, e0, e5, cl148 h148, c1]
      exact ih
theorem lp205o {S : Nat → mv_Sp} (h148 : S 148 = sp148) (h156 : S 156 = sp156) (h160 : S 160 = sp160) (h162 : S 162 = sp162) {sh : mv_Shp} {M N : mv_Mem} {P : mv_Post} {p w x nT : Nat} {y u : Int32} (p1 : oM sh) (hp : p < 6) (hw : w < 2) (hx : x ≤ 10) (hG : gM N) (hC : cY N 0) (hT : N 0 3 = nI nT) (hT6 : nT ≤ 6) (h5 : N 5 = M 5)
    (hQ : ∀ z1 z2, mr205 S P 224 [some (.ref 0), some (.int (nI p)), some (.int (nI w)), some (.int (nI x)), some (.int y), some (.int u), some (.int (nI (slA M N p w nT x u 64))), some (.int (nI (slD M p nT x 64))), some (.int (nI 64)), z1, z2] [] sh (sqM M N p w nT 64) 0 0) :
    ∀ n s z1 z2, s + n = 64 → mr205 S P 76 [some (.ref 0), some (.int (nI p)), some (.int (nI w)), some (.int (nI x)), some (.int y), some (.int u), some (.int (nI (slA M N p w nT x u s))), some (.int (nI (slD M p nT x s))), some (.int (nI s)), z1, z2] [] sh (sqM M N p w nT s) 0 0
  | 0, s, z1, z2, h => by
    obtain rfl : s = 64 := by omega
    rw [e205_76]
    simp (disch := first | assumption | omega) only [e205_78, e205_80, q_gv0, q_gvs, q_isI1, q_isA1, q_hs0, q_hsn, q_hsi, q_hsr, q_hss, q_inc1, List.set_cons_zero, List.set_cons_succ, ↓reduceIte, q_ss0, q_ssi, q_ssr, q_nr0, q_nr10, q_nr11, q_tlS, q_tlN, q_cl, q_let, q_lef, q_ltt, q_ltf, q_eqt, q_eqf, q_add, q_mul, Nat.reduceAdd, Nat.reduceLeDiff, Nat.reduceEqDiff, eq_self, Nat.zero_le, Nat.le_refl, not_false_eq_true, not_true_eq_false, true_and, and_true, and_self, if_true, if_false]
    exact hQ _ _
  | n + 1, s, z1, z2, h => by
    have ih := lp205o h148 h156 h160 h162 p1 hp hw hx hG hC hT hT6 h5 hQ n (s + 1)
    have l1 : 0 + 799 ≤ 9588 := by decide
    have l2 : 8789 + 799 ≤ 9588 := by decide
    have l3 : 0 + 799 ≤ 8789 ∨ 8789 ≤ 0 := by decide
    have gO : gM (sqM M N p w nT s) := gM_of hG (by rw [sqM_out (by decide)]) (by rw [sqM_out (by decide)]) (by rw [sqM_out (by decide)]) (by rw [sqM_out (by decide)]) (sqM_out (by decide) _) (sqM_out (by decide) _) (sqM_out (by decide) _) (sqM_out (by decide) _)
    have cO : cY (sqM M N p w nT s) 0 := cY_of (gM6 hG) hC (by rw [sqM_out (by decide)]) (fun j _ hj => sqM_lo (by omega) _)
    have o5 : sqM M N p w nT s 5 = M 5 := (sqM_out (by decide) s).trans h5
    have o3 : sqM M N p w nT s 0 3 = nI nT := by rw [sqM_out (by decide)]; exact hT
    have e1 : sqM M N p w nT (s + 1) = slT M (cpY (sqM M N p w nT s) 0 8789 799) p w s nT := rfl
    have e2 : slA M N p w nT x u (s + 1) = slA M N p w nT x u s + (if coY (sqM M N p w nT (s + 1)) 8789 = u then slH M p s x nT else 0) := rfl
    have e3 : slD M p nT x (s + 1) = slD M p nT x s + slH M p s x nT := rfl
    rw [e2, e3, e1] at ih
    generalize sqM M N p w nT s = O at *
    have gC := gM_cpY (f := 0) (d := 8789) (n := 799) gO
    have cC := cY_cpY (d := 8789) gO cO
    have c3 : cpY O 0 8789 799 0 3 = nI nT := by rw [cpY_out (by decide)]; exact o3
    have c5 : cpY O 0 8789 799 5 = M 5 := by rw [cpY_out (by decide)]; exact o5
    have gF := gM_slT (M := M) (p := p) (w := w) (s := s) (n := nT) gC
    have cF := cY_slT (M := M) (p := p) (s := s) hw gC cC nT (by rw [c3, q_cl (by omega)]; exact Nat.le_refl _)
    have f3 : ∃ n, n ≤ 6 ∧ slT M (cpY O 0 8789 799) p w s nT 0 3 = nI n := gF.1
    have fin : ∀ z, mr205 S P 188 [some (.ref 0), some (.int (nI p)), some (.int (nI w)), some (.int (nI x)), some (.int y), some (.int u), some (.int (nI (slA M N p w nT x u s))), some (.int (nI (slD M p nT x s))), some (.int (nI s)), some (.int (nI (slH M p s x nT))), z] [] sh (slT M (cpY O 0 8789 799) p w s nT) 0 0 := by
      intro z
      by_cases c : coY (slT M (cpY O 0 8789 799) p w s nT) 8789 = u
      · rw [if_pos c] at ih
        simp (disch := first | assumption | omega) only [e205_188, e205_190, e205_191, e205_194, e205_197, e205_199, e205_202, e205_204, e205_208, e205_209, e205_211, e205_213, e205_215, e205_216, e205_218, e205_221, q_gv0, q_gvs, q_isI1, q_isA1, q_hs0, q_hsn, q_hsi, q_hsr, q_hss, q_inc1, List.set_cons_zero, List.set_cons_succ, ↓reduceIte, q_ss0, q_ssi, q_ssr, q_nr0, q_nr10, q_nr11, q_tlS, q_tlN, q_cl, q_let, q_lef, q_ltt, q_ltf, q_eqt, q_eqf, q_add, q_mul, Nat.reduceAdd, Nat.reduceLeDiff, Nat.reduceEqDiff, eq_self, Nat.zero_le, Nat.le_refl, not_false_eq_true, not_true_eq_false, true_and, and_true, and_self, if_true, if_false, p1.o, cl162 h162, c]
        exact ih _ _ (by omega)
      · rw [if_neg c] at ih
        simp (disch := first | assumption | omega) only [e205_188, e205_190, e205_191, e205_194, e205_197, e205_199, e205_207, e205_208, e205_209, e205_211, e205_213, e205_215, e205_216, e205_218, e205_221, q_gv0, q_gvs, q_isI1, q_isA1, q_hs0, q_hsn, q_hsi, q_hsr, q_hss, q_inc1, List.set_cons_zero, List.set_cons_succ, ↓reduceIte, q_ss0, q_ssi, q_ssr, q_nr0, q_nr10, q_nr11, q_tlS, q_tlN, q_cl, q_let, q_lef, q_ltt, q_ltf, q_eqt, q_eqf, q_add, q_mul, Nat.reduceAdd, Nat.reduceLeDiff, Nat.reduceEqDiff, eq_self, Nat.zero_le, Nat.le_refl, not_false_eq_true, not_true_eq_false, true_and, and_true, and_self, if_true, if_false, p1.o, cl162 h162, c]
        exact ih _ _ (by omega)
    have h0 : slH M p s x 0 = if nI s &&& (M 5 p ^^^ Int32.ofInt (-1)) = nI 0 then 1 else 0 := rfl
    have inner := lp205i (y := y) (u := u) (a := nI (slA M N p w nT x u s)) (b := nI (slD M p nT x s)) h148 h160 p1 hp hw hx (show s < 64 by omega) gC cC c3 hT6 c5 fin nT 0 (by omega)
    rw [h0] at inner
    rw [e205_76]
    by_cases c : nI s &&& (M 5 p ^^^ Int32.ofInt (-1)) = nI 0
    · rw [if_pos c] at inner
      simp (disch := first | assumption | omega) only [e205_78, e205_80, e205_83, e205_85, e205_86, e205_89, e205_90, e205_91, e205_92, e205_93, e205_94, e205_97, e205_98, e205_102, e205_104, e205_105, e205_106, e205_109, e205_112, e205_113, q_gv0, q_gvs, q_isI1, q_isA1, q_hs0, q_hsn, q_hsi, q_hsr, q_hss, q_inc1, List.set_cons_zero, List.set_cons_succ, ↓reduceIte, q_ss0, q_ssi, q_ssr, q_nr0, q_nr10, q_nr11, q_tlS, q_tlN, q_cl, q_let, q_lef, q_ltt, q_ltf, q_eqt, q_eqf, q_add, q_mul, Nat.reduceAdd, Nat.reduceLeDiff, Nat.reduceEqDiff, eq_self, Nat.zero_le, Nat.le_refl, not_false_eq_true, not_true_eq_false, true_and, and_true, and_self, if_true, if_false, p1.o, p1.g8, p1.l5, o5, c, cl156 h156]
      exact inner
    · rw [if_neg c] at inner
      simp (disch := first | assumption | omega) only [e205_78, e205_80, e205_83, e205_85, e205_86, e205_89, e205_90, e205_91, e205_92, e205_93, e205_94, e205_101, e205_102, e205_104, e205_105, e205_106, e205_109, e205_112, e205_113, q_gv0, q_gvs, q_isI1, q_isA1, q_hs0, q_hsn, q_hsi, q_hsr, q_hss, q_inc1, List.set_cons_zero, List.set_cons_succ, ↓reduceIte, q_ss0, q_ssi, q_ssr, q_nr0, q_nr10, q_nr11, q_tlS, q_tlN, q_cl, q_let, q_lef, q_ltt, q_ltf, q_eqt, q_eqf, q_add, q_mul, Nat.reduceAdd, Nat.reduceLeDiff, Nat.reduceEqDiff, eq_self, Nat.zero_le, Nat.le_refl, not_false_eq_true, not_true_eq_false, true_and, and_true, and_self, if_true, if_false, p1.o, p1.g8, p1.l5, o5, c, cl156 h156]
      exact inner
theorem lp205g {S : Nat → mv_Sp} {sh : mv_Shp} {N : mv_Mem} {P : mv_Post} {x1 x2 x3 x4 x5 : Int32} {A B : Nat} (hQ : ∀ z1 z2, mr205 S P 255 [some (.ref 0), some (.int x1), some (.int x2), some (.int x3), some (.int x4), some (.int x5), some (.int (nI A)), some (.int (nI B)), some (.int (nI (Nat.gcd A B))), z1, z2] [] sh N 0 0) :
    ∀ b a z, a < 2147483648 → b < 2147483648 → Nat.gcd a b = Nat.gcd A B →
      mr205 S P 232 [some (.ref 0), some (.int x1), some (.int x2), some (.int x3), some (.int x4), some (.int x5), some (.int (nI A)), some (.int (nI B)), some (.int (nI a)), some (.int (nI b)), z] [] sh N 0 0 := by
  intro b
  induction b using Nat.strongRecOn with
  | _ b ih =>
    intro a z ha hb hg
    rw [e205_232]
    by_cases c : b = 0
    · subst c
      rw [Nat.gcd_zero_right] at hg
      simp (disch := first | assumption | omega) only [e205_234, q_gv0, q_gvs, q_isI1, q_isA1, q_hs0, q_hsn, q_hsi, q_hsr, q_hss, q_inc1, List.set_cons_zero, List.set_cons_succ, ↓reduceIte, q_ss0, q_ssi, q_ssr, q_nr0, q_nr10, q_nr11, q_tlS, q_tlN, q_cl, q_let, q_lef, q_ltt, q_ltf, q_eqt, q_eqf, q_add, q_mul, Nat.reduceAdd, Nat.reduceLeDiff, Nat.reduceEqDiff, eq_self, Nat.zero_le, Nat.le_refl, not_false_eq_true, not_true_eq_false, true_and, and_true, and_self, if_true, if_false]
      rw [hg]
      exact hQ _ _
    · have b0 : 0 < b := by omega
      have m := Nat.mod_lt a b0
      have hg2 : Nat.gcd b (a % b) = Nat.gcd A B := by rw [← hg, Nat.gcd_comm b, Nat.gcd_comm a, ← Nat.gcd_rec b a]
      simp (disch := first | assumption | omega) only [e205_234, e205_237, e205_239, e205_241, e205_242, e205_244, e205_246, e205_248, e205_250, e205_252, q_gv0, q_gvs, q_isI1, q_isA1, q_hs0, q_hsn, q_hsi, q_hsr, q_hss, q_inc1, List.set_cons_zero, List.set_cons_succ, ↓reduceIte, q_ss0, q_ssi, q_ssr, q_nr0, q_nr10, q_nr11, q_tlS, q_tlN, q_cl, q_let, q_lef, q_ltt, q_ltf, q_eqt, q_eqf, q_add, q_mul, Nat.reduceAdd, Nat.reduceLeDiff, Nat.reduceEqDiff, eq_self, Nat.zero_le, Nat.le_refl, not_false_eq_true, not_true_eq_false, true_and, and_true, and_self, if_true, if_false, q_rem]
      exact ih (a % b) m b _ hb (by omega) hg2
/-- the trial as the pick would have it -/
def slS (M : mv_Mem) (p w : Nat) : mv_Mem := trY (cpY M 0 8789 799) 8789 p w (M 0 3).toNatClampNeg
def slU (M : mv_Mem) (p w x : Nat) : Nat := slA M (slS M p w) p w (M 0 3).toNatClampNeg x (coY (slS M p w) 8789) 64
def slB (M : mv_Mem) (p x : Nat) : Nat := slD M p (M 0 3).toNatClampNeg x 64
def sp205 : mv_Sp := fun As sh M Q => ∃ (x : Int32) (y : Int32) (z : Int32) (u : Int32), As = [.ref 0, .int x, .int y, .int z, .int u] ∧ ((oM sh) ∧ (gM M) ∧ (cY M 0) ∧ (∀ p z, z ≤ 10 → 0 < slB M p z)) ∧ Q (some (.int (if x < nI 0 then Int32.ofInt (-1) else if M 0 7 ≤ x then Int32.ofInt (-1) else if ¬ y = nI 0 ∧ ¬ y = nI 1 then Int32.ofInt (-1) else if z < nI 0 then Int32.ofInt (-1) else if nI 10 < z then Int32.ofInt (-1) else if u < nI 0 then Int32.ofInt (-1) else if nI 1 < u then Int32.ofInt (-1) else if u = nI 0 then nI (slU M x.toNatClampNeg y.toNatClampNeg z.toNatClampNeg / Nat.gcd (slU M x.toNatClampNeg y.toNatClampNeg z.toNatClampNeg) (slB M x.toNatClampNeg z.toNatClampNeg)) else nI (slB M x.toNatClampNeg z.toNatClampNeg / Nat.gcd (slU M x.toNatClampNeg y.toNatClampNeg z.toNatClampNeg) (slB M x.toNatClampNeg z.toNatClampNeg))))) (sh) (if x < nI 0 then M else if M 0 7 ≤ x then M else if ¬ y = nI 0 ∧ ¬ y = nI 1 then M else if z < nI 0 then M else if nI 10 < z then M else if u < nI 0 then M else if nI 1 < u then M else sqM M (slS M x.toNatClampNeg y.toNatClampNeg) x.toNatClampNeg y.toNatClampNeg (M 0 3).toNatClampNeg 64)
theorem cl205 {S : Nat → mv_Sp} (hS : S 205 = sp205) {sh : mv_Shp} {M : mv_Mem} {x : Int32} {y : Int32} {z : Int32} {u : Int32} (p1 : oM sh) (p2 : gM M) (p3 : cY M 0) (p4 : ∀ p z, z ≤ 10 → 0 < slB M p z) {K : mv_Kt} {pc : Nat} {L : mv_Loc} {st : List Value} {cc_ ss_ : Nat} : mv_kal S 205 [.ref 0, .int x, .int y, .int z, .int u] sh M K pc L st cc_ ss_ = K pc L ((some (.int (if x < nI 0 then Int32.ofInt (-1) else if M 0 7 ≤ x then Int32.ofInt (-1) else if ¬ y = nI 0 ∧ ¬ y = nI 1 then Int32.ofInt (-1) else if z < nI 0 then Int32.ofInt (-1) else if nI 10 < z then Int32.ofInt (-1) else if u < nI 0 then Int32.ofInt (-1) else if nI 1 < u then Int32.ofInt (-1) else if u = nI 0 then nI (slU M x.toNatClampNeg y.toNatClampNeg z.toNatClampNeg / Nat.gcd (slU M x.toNatClampNeg y.toNatClampNeg z.toNatClampNeg) (slB M x.toNatClampNeg z.toNatClampNeg)) else nI (slB M x.toNatClampNeg z.toNatClampNeg / Nat.gcd (slU M x.toNatClampNeg y.toNatClampNeg z.toNatClampNeg) (slB M x.toNatClampNeg z.toNatClampNeg)))) : Option Value).toList ++ st) (sh) (if x < nI 0 then M else if M 0 7 ≤ x then M else if ¬ y = nI 0 ∧ ¬ y = nI 1 then M else if z < nI 0 then M else if nI 10 < z then M else if u < nI 0 then M else if nI 1 < u then M else sqM M (slS M x.toNatClampNeg y.toNatClampNeg) x.toNatClampNeg y.toNatClampNeg (M 0 3).toNatClampNeg 64) cc_ ss_ := by
  refine q_kal (fun F => q_cali (fun Q => ?_))
  rw [hS]
  constructor
  · rintro ⟨x', y', z', u', hE, ⟨zp1, zp2, zp3, zp4⟩, hQ⟩
    simp only [List.cons.injEq, Value.ref.injEq, Value.int.injEq, Value.long.injEq, and_true, true_and] at hE
    obtain ⟨rfl, rfl, rfl, rfl⟩ := hE
    exact hQ
  · intro hQ
    exact ⟨x, y, z, u, rfl, ⟨p1, p2, p3, p4⟩, hQ⟩
theorem ct205 {S : Nat → mv_Sp} (h144 : S 144 = sp144) (h148 : S 148 = sp148) (h156 : S 156 = sp156) (h160 : S 160 = sp160) (h161 : S 161 = sp161) (h162 : S 162 = sp162) (h193 : S 193 = sp193) (h194 : S 194 = sp194) : ∀ As sh M P, sp205 As sh M P → (mv_al0 As).length ≤ 11 ∧ mr205 S P 0 (mv_ent As 11) [] sh M 0 0 := by
  rintro As sh M P ⟨x, y, z, u, rfl, ⟨p1, p2, p3, p4⟩, hQ⟩
  refine ⟨Nat.le_of_ble_eq_true rfl, ?_⟩
  show mr205 S P 0 [some (.ref 0), some (.int x), some (.int y), some (.int z), some (.int u), none, none, none, none, none, none] [] sh M 0 0
  obtain ⟨n, hn, hN⟩ := id p2.2.1
  have hn2 : ∃ n, n ≤ 6 ∧ M 0 7 = nI n := p2.2.1
  have iz := in_g z (nI 0) (nI 10)
  have iu := in_1 u
  rcases i32_c x with c1 | ⟨k, hk, rfl⟩
  · simp only [c1, if_true] at hQ
    simp (disch := first | assumption | omega) only [e205_0, e205_1, e205_2, e205_5, e205_8, e205_9, e205_12, e205_15, e205_16, e205_17, e205_18, e205_21, e205_24, e205_27, e205_29, e205_30, e205_31, e205_32, e205_35, e205_38, e205_39, e205_40, e205_41, e205_42, e205_45, e205_48, e205_49, e205_52, e205_53, e205_54, e205_57, e205_57r, e205_58, e205_59, e205_62, e205_65, e205_67, e205_68, e205_70, e205_71, e205_73, e205_74, e205_78, e205_80, e205_83, e205_85, e205_86, e205_89, e205_90, e205_91, e205_92, e205_93, e205_94, e205_97, e205_98, e205_101, e205_102, e205_104, e205_105, e205_106, e205_109, e205_112, e205_113, e205_117, e205_118, e205_121, e205_124, e205_125, e205_128, e205_129, e205_130, e205_132, e205_135, e205_138, e205_140, e205_142, e205_144, e205_147, e205_150, e205_151, e205_154, e205_156, e205_157, e205_158, e205_159, e205_161, e205_163, e205_165, e205_168, e205_171, e205_172, e205_175, e205_177, e205_178, e205_181, e205_181r, e205_182, e205_185, e205_188, e205_190, e205_191, e205_194, e205_197, e205_199, e205_202, e205_204, e205_207, e205_208, e205_209, e205_211, e205_213, e205_215, e205_216, e205_218, e205_221, e205_224, e205_226, e205_228, e205_230, e205_234, e205_237, e205_239, e205_241, e205_242, e205_244, e205_246, e205_248, e205_250, e205_252, e205_255, e205_257, e205_260, e205_262, e205_264, e205_265, e205_268, e205_270, e205_272, e205_273, q_gv0, q_gvs, q_isI1, q_isA1, q_hs0, q_hsn, q_hsi, q_hsr, q_hss, q_inc1, List.set_cons_zero, List.set_cons_succ, ↓reduceIte, q_ss0, q_ssi, q_ssr, q_nr0, q_nr10, q_nr11, q_tlS, q_tlN, q_cl, q_let, q_lef, q_ltt, q_ltf, q_eqt, q_eqf, q_add, q_mul, Nat.reduceAdd, Nat.reduceLeDiff, Nat.reduceEqDiff, eq_self, Nat.zero_le, Nat.le_refl, not_false_eq_true, not_true_eq_false, true_and, and_true, and_self, if_true, if_false, p1.o, cl193 h193, c1]
    exact hQ
  have c1 : (nI k < nI 0) = False := q_ltf (by omega) hk
  simp only [c1, if_false] at hQ
  by_cases c2 : n ≤ k
  · have c3 : (nI n ≤ nI k) = True := q_let c2 hk
    simp only [hN, c3, if_true] at hQ
    simp (disch := first | assumption | omega) only [e205_0, e205_1, e205_2, e205_5, e205_8, e205_9, e205_12, e205_15, e205_16, e205_17, e205_18, e205_21, e205_24, e205_27, e205_29, e205_30, e205_31, e205_32, e205_35, e205_38, e205_39, e205_40, e205_41, e205_42, e205_45, e205_48, e205_49, e205_52, e205_53, e205_54, e205_57, e205_57r, e205_58, e205_59, e205_62, e205_65, e205_67, e205_68, e205_70, e205_71, e205_73, e205_74, e205_78, e205_80, e205_83, e205_85, e205_86, e205_89, e205_90, e205_91, e205_92, e205_93, e205_94, e205_97, e205_98, e205_101, e205_102, e205_104, e205_105, e205_106, e205_109, e205_112, e205_113, e205_117, e205_118, e205_121, e205_124, e205_125, e205_128, e205_129, e205_130, e205_132, e205_135, e205_138, e205_140, e205_142, e205_144, e205_147, e205_150, e205_151, e205_154, e205_156, e205_157, e205_158, e205_159, e205_161, e205_163, e205_165, e205_168, e205_171, e205_172, e205_175, e205_177, e205_178, e205_181, e205_181r, e205_182, e205_185, e205_188, e205_190, e205_191, e205_194, e205_197, e205_199, e205_202, e205_204, e205_207, e205_208, e205_209, e205_211, e205_213, e205_215, e205_216, e205_218, e205_221, e205_224, e205_226, e205_228, e205_230, e205_234, e205_237, e205_239, e205_241, e205_242, e205_244, e205_246, e205_248, e205_250, e205_252, e205_255, e205_257, e205_260, e205_262, e205_264, e205_265, e205_268, e205_270, e205_272, e205_273, q_gv0, q_gvs, q_isI1, q_isA1, q_hs0, q_hsn, q_hsi, q_hsr, q_hss, q_inc1, List.set_cons_zero, List.set_cons_succ, ↓reduceIte, q_ss0, q_ssi, q_ssr, q_nr0, q_nr10, q_nr11, q_tlS, q_tlN, q_cl, q_let, q_lef, q_ltt, q_ltf, q_eqt, q_eqf, q_add, q_mul, Nat.reduceAdd, Nat.reduceLeDiff, Nat.reduceEqDiff, eq_self, Nat.zero_le, Nat.le_refl, not_false_eq_true, not_true_eq_false, true_and, and_true, and_self, if_true, if_false, p1.o, cl193 h193, c1, hN, c3]
    exact hQ
  have c3 : (nI n ≤ nI k) = False := q_lef (by omega) (by omega)
  simp only [hN, c3, if_false, q_cl hk] at hQ
  have k6 : k < 6 := by omega
  rcases way_c y with ⟨w, hw, rfl⟩ | ⟨d0, d1⟩
  · have d2 : ¬ (¬ nI w = nI 0 ∧ ¬ nI w = nI 1) := by
      rcases (show w = 0 ∨ w = 1 by omega) with rfl | rfl
      · exact fun z => z.1 rfl
      · exact fun z => z.2 rfl
    rw [if_neg d2, if_neg d2, q_cl (show w < 2147483648 by omega)] at hQ
    have wt := @way_t w hw (nI 1) (nI 0)
    by_cases c4 : z < nI 0
    · rw [if_pos c4] at iz
      rw [if_pos c4, if_pos c4] at hQ
      simp (disch := first | assumption | omega) only [e205_0, e205_1, e205_2, e205_5, e205_8, e205_9, e205_12, e205_15, e205_16, e205_17, e205_18, e205_21, e205_24, e205_27, e205_29, e205_30, e205_31, e205_32, e205_35, e205_38, e205_39, e205_40, e205_41, e205_42, e205_45, e205_48, e205_49, e205_52, e205_53, e205_54, e205_57, e205_57r, e205_58, e205_59, e205_62, e205_65, e205_67, e205_68, e205_70, e205_71, e205_73, e205_74, e205_78, e205_80, e205_83, e205_85, e205_86, e205_89, e205_90, e205_91, e205_92, e205_93, e205_94, e205_97, e205_98, e205_101, e205_102, e205_104, e205_105, e205_106, e205_109, e205_112, e205_113, e205_117, e205_118, e205_121, e205_124, e205_125, e205_128, e205_129, e205_130, e205_132, e205_135, e205_138, e205_140, e205_142, e205_144, e205_147, e205_150, e205_151, e205_154, e205_156, e205_157, e205_158, e205_159, e205_161, e205_163, e205_165, e205_168, e205_171, e205_172, e205_175, e205_177, e205_178, e205_181, e205_181r, e205_182, e205_185, e205_188, e205_190, e205_191, e205_194, e205_197, e205_199, e205_202, e205_204, e205_207, e205_208, e205_209, e205_211, e205_213, e205_215, e205_216, e205_218, e205_221, e205_224, e205_226, e205_228, e205_230, e205_234, e205_237, e205_239, e205_241, e205_242, e205_244, e205_246, e205_248, e205_250, e205_252, e205_255, e205_257, e205_260, e205_262, e205_264, e205_265, e205_268, e205_270, e205_272, e205_273, q_gv0, q_gvs, q_isI1, q_isA1, q_hs0, q_hsn, q_hsi, q_hsr, q_hss, q_inc1, List.set_cons_zero, List.set_cons_succ, ↓reduceIte, q_ss0, q_ssi, q_ssr, q_nr0, q_nr10, q_nr11, q_tlS, q_tlN, q_cl, q_let, q_lef, q_ltt, q_ltf, q_eqt, q_eqf, q_add, q_mul, Nat.reduceAdd, Nat.reduceLeDiff, Nat.reduceEqDiff, eq_self, Nat.zero_le, Nat.le_refl, not_false_eq_true, not_true_eq_false, true_and, and_true, and_self, if_true, if_false, q_isL1, q_lc, cr144 h144, p1.o, cl193 h193, cl194 h194 trivial, c1, hN, c3, wt, iz]
      exact hQ
    rw [if_neg c4] at iz
    rw [if_neg c4, if_neg c4] at hQ
    by_cases c5 : nI 10 < z
    · rw [if_pos c5] at iz
      rw [if_pos c5, if_pos c5] at hQ
      simp (disch := first | assumption | omega) only [e205_0, e205_1, e205_2, e205_5, e205_8, e205_9, e205_12, e205_15, e205_16, e205_17, e205_18, e205_21, e205_24, e205_27, e205_29, e205_30, e205_31, e205_32, e205_35, e205_38, e205_39, e205_40, e205_41, e205_42, e205_45, e205_48, e205_49, e205_52, e205_53, e205_54, e205_57, e205_57r, e205_58, e205_59, e205_62, e205_65, e205_67, e205_68, e205_70, e205_71, e205_73, e205_74, e205_78, e205_80, e205_83, e205_85, e205_86, e205_89, e205_90, e205_91, e205_92, e205_93, e205_94, e205_97, e205_98, e205_101, e205_102, e205_104, e205_105, e205_106, e205_109, e205_112, e205_113, e205_117, e205_118, e205_121, e205_124, e205_125, e205_128, e205_129, e205_130, e205_132, e205_135, e205_138, e205_140, e205_142, e205_144, e205_147, e205_150, e205_151, e205_154, e205_156, e205_157, e205_158, e205_159, e205_161, e205_163, e205_165, e205_168, e205_171, e205_172, e205_175, e205_177, e205_178, e205_181, e205_181r, e205_182, e205_185, e205_188, e205_190, e205_191, e205_194, e205_197, e205_199, e205_202, e205_204, e205_207, e205_208, e205_209, e205_211, e205_213, e205_215, e205_216, e205_218, e205_221, e205_224, e205_226, e205_228, e205_230, e205_234, e205_237, e205_239, e205_241, e205_242, e205_244, e205_246, e205_248, e205_250, e205_252, e205_255, e205_257, e205_260, e205_262, e205_264, e205_265, e205_268, e205_270, e205_272, e205_273, q_gv0, q_gvs, q_isI1, q_isA1, q_hs0, q_hsn, q_hsi, q_hsr, q_hss, q_inc1, List.set_cons_zero, List.set_cons_succ, ↓reduceIte, q_ss0, q_ssi, q_ssr, q_nr0, q_nr10, q_nr11, q_tlS, q_tlN, q_cl, q_let, q_lef, q_ltt, q_ltf, q_eqt, q_eqf, q_add, q_mul, Nat.reduceAdd, Nat.reduceLeDiff, Nat.reduceEqDiff, eq_self, Nat.zero_le, Nat.le_refl, not_false_eq_true, not_true_eq_false, true_and, and_true, and_self, if_true, if_false, q_isL1, q_lc, cr144 h144, p1.o, cl193 h193, cl194 h194 trivial, c1, hN, c3, wt, iz]
      exact hQ
    rw [if_neg c5] at iz
    rw [if_neg c5, if_neg c5] at hQ
    by_cases c6 : u < nI 0
    · rw [if_pos c6] at iu
      rw [if_pos c6, if_pos c6] at hQ
      simp (disch := first | assumption | omega) only [e205_0, e205_1, e205_2, e205_5, e205_8, e205_9, e205_12, e205_15, e205_16, e205_17, e205_18, e205_21, e205_24, e205_27, e205_29, e205_30, e205_31, e205_32, e205_35, e205_38, e205_39, e205_40, e205_41, e205_42, e205_45, e205_48, e205_49, e205_52, e205_53, e205_54, e205_57, e205_57r, e205_58, e205_59, e205_62, e205_65, e205_67, e205_68, e205_70, e205_71, e205_73, e205_74, e205_78, e205_80, e205_83, e205_85, e205_86, e205_89, e205_90, e205_91, e205_92, e205_93, e205_94, e205_97, e205_98, e205_101, e205_102, e205_104, e205_105, e205_106, e205_109, e205_112, e205_113, e205_117, e205_118, e205_121, e205_124, e205_125, e205_128, e205_129, e205_130, e205_132, e205_135, e205_138, e205_140, e205_142, e205_144, e205_147, e205_150, e205_151, e205_154, e205_156, e205_157, e205_158, e205_159, e205_161, e205_163, e205_165, e205_168, e205_171, e205_172, e205_175, e205_177, e205_178, e205_181, e205_181r, e205_182, e205_185, e205_188, e205_190, e205_191, e205_194, e205_197, e205_199, e205_202, e205_204, e205_207, e205_208, e205_209, e205_211, e205_213, e205_215, e205_216, e205_218, e205_221, e205_224, e205_226, e205_228, e205_230, e205_234, e205_237, e205_239, e205_241, e205_242, e205_244, e205_246, e205_248, e205_250, e205_252, e205_255, e205_257, e205_260, e205_262, e205_264, e205_265, e205_268, e205_270, e205_272, e205_273, q_gv0, q_gvs, q_isI1, q_isA1, q_hs0, q_hsn, q_hsi, q_hsr, q_hss, q_inc1, List.set_cons_zero, List.set_cons_succ, ↓reduceIte, q_ss0, q_ssi, q_ssr, q_nr0, q_nr10, q_nr11, q_tlS, q_tlN, q_cl, q_let, q_lef, q_ltt, q_ltf, q_eqt, q_eqf, q_add, q_mul, Nat.reduceAdd, Nat.reduceLeDiff, Nat.reduceEqDiff, eq_self, Nat.zero_le, Nat.le_refl, not_false_eq_true, not_true_eq_false, true_and, and_true, and_self, if_true, if_false, q_isL1, q_lc, cr144 h144, p1.o, cl193 h193, cl194 h194 trivial, c1, hN, c3, wt, iz, iu]
      exact hQ
    rw [if_neg c6] at iu
    rw [if_neg c6, if_neg c6] at hQ
    by_cases c7 : nI 1 < u
    · rw [if_pos c7] at iu
      rw [if_pos c7, if_pos c7] at hQ
      simp (disch := first | assumption | omega) only [e205_0, e205_1, e205_2, e205_5, e205_8, e205_9, e205_12, e205_15, e205_16, e205_17, e205_18, e205_21, e205_24, e205_27, e205_29, e205_30, e205_31, e205_32, e205_35, e205_38, e205_39, e205_40, e205_41, e205_42, e205_45, e205_48, e205_49, e205_52, e205_53, e205_54, e205_57, e205_57r, e205_58, e205_59, e205_62, e205_65, e205_67, e205_68, e205_70, e205_71, e205_73, e205_74, e205_78, e205_80, e205_83, e205_85, e205_86, e205_89, e205_90, e205_91, e205_92, e205_93, e205_94, e205_97, e205_98, e205_101, e205_102, e205_104, e205_105, e205_106, e205_109, e205_112, e205_113, e205_117, e205_118, e205_121, e205_124, e205_125, e205_128, e205_129, e205_130, e205_132, e205_135, e205_138, e205_140, e205_142, e205_144, e205_147, e205_150, e205_151, e205_154, e205_156, e205_157, e205_158, e205_159, e205_161, e205_163, e205_165, e205_168, e205_171, e205_172, e205_175, e205_177, e205_178, e205_181, e205_181r, e205_182, e205_185, e205_188, e205_190, e205_191, e205_194, e205_197, e205_199, e205_202, e205_204, e205_207, e205_208, e205_209, e205_211, e205_213, e205_215, e205_216, e205_218, e205_221, e205_224, e205_226, e205_228, e205_230, e205_234, e205_237, e205_239, e205_241, e205_242, e205_244, e205_246, e205_248, e205_250, e205_252, e205_255, e205_257, e205_260, e205_262, e205_264, e205_265, e205_268, e205_270, e205_272, e205_273, q_gv0, q_gvs, q_isI1, q_isA1, q_hs0, q_hsn, q_hsi, q_hsr, q_hss, q_inc1, List.set_cons_zero, List.set_cons_succ, ↓reduceIte, q_ss0, q_ssi, q_ssr, q_nr0, q_nr10, q_nr11, q_tlS, q_tlN, q_cl, q_let, q_lef, q_ltt, q_ltf, q_eqt, q_eqf, q_add, q_mul, Nat.reduceAdd, Nat.reduceLeDiff, Nat.reduceEqDiff, eq_self, Nat.zero_le, Nat.le_refl, not_false_eq_true, not_true_eq_false, true_and, and_true, and_self, if_true, if_false, q_isL1, q_lc, cr144 h144, p1.o, cl193 h193, cl194 h194 trivial, c1, hN, c3, wt, iz, iu]
      exact hQ
    rw [if_neg c7] at iu
    rw [if_neg c7, if_neg c7] at hQ
    rcases i32_c z with d | ⟨q, hq, rfl⟩
    · exact absurd d c4
    have q1 : q ≤ 10 := by
      have : ¬ 10 < q := fun e => c5 ((nI_ltI (by omega) (by omega)).mpr e)
      omega
    rw [q_cl hq] at hQ
    obtain ⟨nT, h6, hT⟩ := id p2.1
    have l1 : 0 + 799 ≤ 9588 := by decide
    have l2 : 8789 + 799 ≤ 9588 := by decide
    have l3 : 0 + 799 ≤ 8789 ∨ 8789 ≤ 0 := by decide
    have gC := gM_cpY (f := 0) (d := 8789) (n := 799) p2
    have cC := cY_cpY (d := 8789) p2 p3
    have t3 : cpY M 0 8789 799 0 3 = M 0 3 := by rw [cpY_out (by decide)]
    have gS : gM (slS M k w) := gM_trY gC
    have cS : cY (slS M k w) 8789 := cY_tr hw gC cC _ (by rw [t3]; exact Nat.le_refl _)
    have s3 : slS M k w 0 3 = nI nT := by unfold slS; rw [trY_out (by decide), t3]; exact hT
    have hs3 : ∃ n, n ≤ 6 ∧ slS M k w 0 3 = nI n := ⟨nT, h6, s3⟩
    have s5 : slS M k w 5 = M 5 := by unfold slS; rw [trY_out (by decide), cpY_out (by decide)]
    have c0 : cY (slS M k w) 0 := by
      refine cY_of (gM6 p2) p3 (by rw [s3, hT]) (fun j _ hj => ?_)
      unfold slS
      rw [trY_at _ (gM6 p2) (Or.inl (by omega)), cpY_at (Or.inl (by omega))]
    have cr161 : ∀ {K : mv_Kt} {pc : Nat} {L : mv_Loc} {st : List Value} {c s : Nat}, mv_kal S 161 [.ref 0, .int (nI 8789), .int (nI k), .int (nI w)] sh (cpY M 0 8789 799) K pc L st c s = K pc L ((some (.int (nI (tjY (cpY M 0 8789 799) 8789 k w (M 0 3).toNatClampNeg)))).toList ++ st) sh (slS M k w) c s := by
      intro K pc L st c s
      have := @cl161 S h161 sh (cpY M 0 8789 799) 8789 k w p1 l2 k6 hw gC cC K pc L st c s
      rw [t3] at this
      exact this
    simp (disch := first | assumption | omega) only [e205_0, e205_1, e205_2, e205_5, e205_8, e205_9, e205_12, e205_15, e205_16, e205_17, e205_18, e205_21, e205_24, e205_27, e205_29, e205_30, e205_31, e205_32, e205_35, e205_38, e205_39, e205_40, e205_41, e205_42, e205_45, e205_48, e205_49, e205_52, e205_53, e205_54, e205_57, e205_57r, e205_58, e205_59, e205_62, e205_65, e205_67, e205_68, e205_70, e205_71, e205_73, e205_74, e205_78, e205_80, e205_83, e205_85, e205_86, e205_89, e205_90, e205_91, e205_92, e205_93, e205_94, e205_97, e205_98, e205_101, e205_102, e205_104, e205_105, e205_106, e205_109, e205_112, e205_113, e205_117, e205_118, e205_121, e205_124, e205_125, e205_128, e205_129, e205_130, e205_132, e205_135, e205_138, e205_140, e205_142, e205_144, e205_147, e205_150, e205_151, e205_154, e205_156, e205_157, e205_158, e205_159, e205_161, e205_163, e205_165, e205_168, e205_171, e205_172, e205_175, e205_177, e205_178, e205_181, e205_181r, e205_182, e205_185, e205_188, e205_190, e205_191, e205_194, e205_197, e205_199, e205_202, e205_204, e205_207, e205_208, e205_209, e205_211, e205_213, e205_215, e205_216, e205_218, e205_221, e205_224, e205_226, e205_228, e205_230, e205_234, e205_237, e205_239, e205_241, e205_242, e205_244, e205_246, e205_248, e205_250, e205_252, e205_255, e205_257, e205_260, e205_262, e205_264, e205_265, e205_268, e205_270, e205_272, e205_273, q_gv0, q_gvs, q_isI1, q_isA1, q_hs0, q_hsn, q_hsi, q_hsr, q_hss, q_inc1, List.set_cons_zero, List.set_cons_succ, ↓reduceIte, q_ss0, q_ssi, q_ssr, q_nr0, q_nr10, q_nr11, q_tlS, q_tlN, q_cl, q_let, q_lef, q_ltt, q_ltf, q_eqt, q_eqf, q_add, q_mul, Nat.reduceAdd, Nat.reduceLeDiff, Nat.reduceEqDiff, eq_self, Nat.zero_le, Nat.le_refl, not_false_eq_true, not_true_eq_false, true_and, and_true, and_self, if_true, if_false, q_isL1, q_lc, cr144 h144, p1.o, cl193 h193, cl194 h194 trivial, c1, hN, c3, wt, iz, iu, cl156 h156, cr161, cl162 h162]
    have up := p4 k q q1
    unfold slU slB at *
    rw [hT, q_cl (show nT < 2147483648 by omega)] at hQ
    have hB : 0 < slD M k nT q 64 := by
      have := up
      rw [hT, q_cl (show nT < 2147483648 by omega)] at this
      exact this
    refine lp205o (M := M) (N := slS M k w) (nT := nT) (u := coY (slS M k w) 8789) h148 h156 h160 h162 p1 k6 hw q1 gS c0 s3 h6 s5 (fun z1 z2 => ?_) 64 0 none none rfl
    have bA := slA_le (M := M) (N := slS M k w) (p := k) (w := w) (due := coY (slS M k w) 8789) q1 h6 64
    have bD := slD_le (M := M) (p := k) q1 h6 64
    generalize slA M (slS M k w) k w nT q (coY (slS M k w) 8789) 64 = A at *
    generalize slD M k nT q 64 = D at *
    simp (disch := first | assumption | omega) only [e205_224, e205_226, e205_228, e205_230, q_gv0, q_gvs, q_isI1, q_isA1, q_hs0, q_hsn, q_hsi, q_hsr, q_hss, q_inc1, List.set_cons_zero, List.set_cons_succ, ↓reduceIte, q_ss0, q_ssi, q_ssr, q_nr0, q_nr10, q_nr11, q_tlS, q_tlN, q_cl, q_let, q_lef, q_ltt, q_ltf, q_eqt, q_eqf, q_add, q_mul, Nat.reduceAdd, Nat.reduceLeDiff, Nat.reduceEqDiff, eq_self, Nat.zero_le, Nat.le_refl, not_false_eq_true, not_true_eq_false, true_and, and_true, and_self, if_true, if_false]
    refine lp205g (fun z1 z2 => ?_) D A _ (by omega) (by omega) rfl
    have g0 : 0 < Nat.gcd A D := Nat.gcd_pos_of_pos_right _ hB
    have g1 : Nat.gcd A D ≤ D := Nat.gcd_le_right _ hB
    have g2 : ¬ Nat.gcd A D = 0 := by omega
    by_cases c9 : u = nI 0
    · rw [if_pos c9] at hQ
      simp (disch := first | assumption | omega) only [e205_255, e205_257, e205_260, e205_262, e205_264, e205_265, e205_273, q_gv0, q_gvs, q_isI1, q_isA1, q_hs0, q_hsn, q_hsi, q_hsr, q_hss, q_inc1, List.set_cons_zero, List.set_cons_succ, ↓reduceIte, q_ss0, q_ssi, q_ssr, q_nr0, q_nr10, q_nr11, q_tlS, q_tlN, q_cl, q_let, q_lef, q_ltt, q_ltf, q_eqt, q_eqf, q_add, q_mul, Nat.reduceAdd, Nat.reduceLeDiff, Nat.reduceEqDiff, eq_self, Nat.zero_le, Nat.le_refl, not_false_eq_true, not_true_eq_false, true_and, and_true, and_self, if_true, if_false, c9, q_div]
      exact hQ
    · rw [if_neg c9] at hQ
      simp (disch := first | assumption | omega) only [e205_255, e205_257, e205_268, e205_270, e205_272, e205_273, q_gv0, q_gvs, q_isI1, q_isA1, q_hs0, q_hsn, q_hsi, q_hsr, q_hss, q_inc1, List.set_cons_zero, List.set_cons_succ, ↓reduceIte, q_ss0, q_ssi, q_ssr, q_nr0, q_nr10, q_nr11, q_tlS, q_tlN, q_cl, q_let, q_lef, q_ltt, q_ltf, q_eqt, q_eqf, q_add, q_mul, Nat.reduceAdd, Nat.reduceLeDiff, Nat.reduceEqDiff, eq_self, Nat.zero_le, Nat.le_refl, not_false_eq_true, not_true_eq_false, true_and, and_true, and_self, if_true, if_false, c9, q_div]
      exact hQ
  · rw [if_pos ⟨d0, d1⟩, if_pos ⟨d0, d1⟩] at hQ
    simp (disch := first | assumption | omega) only [e205_0, e205_1, e205_2, e205_5, e205_8, e205_9, e205_12, e205_15, e205_16, e205_17, e205_18, e205_21, e205_24, e205_27, e205_29, e205_30, e205_31, e205_32, e205_35, e205_38, e205_39, e205_40, e205_41, e205_42, e205_45, e205_48, e205_49, e205_52, e205_53, e205_54, e205_57, e205_57r, e205_58, e205_59, e205_62, e205_65, e205_67, e205_68, e205_70, e205_71, e205_73, e205_74, e205_78, e205_80, e205_83, e205_85, e205_86, e205_89, e205_90, e205_91, e205_92, e205_93, e205_94, e205_97, e205_98, e205_101, e205_102, e205_104, e205_105, e205_106, e205_109, e205_112, e205_113, e205_117, e205_118, e205_121, e205_124, e205_125, e205_128, e205_129, e205_130, e205_132, e205_135, e205_138, e205_140, e205_142, e205_144, e205_147, e205_150, e205_151, e205_154, e205_156, e205_157, e205_158, e205_159, e205_161, e205_163, e205_165, e205_168, e205_171, e205_172, e205_175, e205_177, e205_178, e205_181, e205_181r, e205_182, e205_185, e205_188, e205_190, e205_191, e205_194, e205_197, e205_199, e205_202, e205_204, e205_207, e205_208, e205_209, e205_211, e205_213, e205_215, e205_216, e205_218, e205_221, e205_224, e205_226, e205_228, e205_230, e205_234, e205_237, e205_239, e205_241, e205_242, e205_244, e205_246, e205_248, e205_250, e205_252, e205_255, e205_257, e205_260, e205_262, e205_264, e205_265, e205_268, e205_270, e205_272, e205_273, q_gv0, q_gvs, q_isI1, q_isA1, q_hs0, q_hsn, q_hsi, q_hsr, q_hss, q_inc1, List.set_cons_zero, List.set_cons_succ, ↓reduceIte, q_ss0, q_ssi, q_ssr, q_nr0, q_nr10, q_nr11, q_tlS, q_tlN, q_cl, q_let, q_lef, q_ltt, q_ltf, q_eqt, q_eqf, q_add, q_mul, Nat.reduceAdd, Nat.reduceLeDiff, Nat.reduceEqDiff, eq_self, Nat.zero_le, Nat.le_refl, not_false_eq_true, not_true_eq_false, true_and, and_true, and_self, if_true, if_false, p1.o, cl193 h193, cl194 h194 trivial, c1, hN, c3, d0, d1]
    exact hQ
