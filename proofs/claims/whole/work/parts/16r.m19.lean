/-! the model: rows counted, amiss, ways -/
theorem sh_t4 : ∀ (q : Fin 4) (t : Fin 6), nI q.1 <<< (nI (2 * t.1) &&& 31) = nI (q.1 <<< (2 * t.1)) ∧ q.1 <<< (2 * t.1) < 4 ^ (t.1 + 1) := by decide +kernel
theorem or_4 {n : Nat} {u v : Int32} (h : ∃ k, k < 4 ^ n ∧ u = nI k) (h2 : ∃ k, k < 4 ^ n ∧ v = nI k) : ∃ k, k < 4 ^ n ∧ u ||| v = nI k := by
  obtain ⟨k, hk, rfl⟩ := h
  obtain ⟨j, hj, rfl⟩ := h2
  rw [pow4] at hk hj ⊢
  exact ⟨k ||| j, Nat.or_lt_two_pow hk hj, nI_orN k j⟩
theorem up_4 {n : Nat} {u : Int32} (h : ∃ k, k < 4 ^ n ∧ u = nI k) : ∃ k, k < 4 ^ (n + 1) ∧ u = nI k := by
  obtain ⟨k, hk, hu⟩ := h
  exact ⟨k, Nat.lt_of_lt_of_le hk (Nat.pow_le_pow_right (by decide) (by omega)), hu⟩
theorem stY_lt (M : mv_Mem) (p w : Nat) : ∀ n, n ≤ 6 → ∃ k, k < 4 ^ n ∧ stY M p w n = nI k
  | 0, _ => ⟨0, by decide, rfl⟩
  | n + 1, hn => by
    have ih := stY_lt M p w n (by omega)
    unfold stY
    split
    · obtain ⟨q, hq, hQ⟩ : ∃ q, q < 4 ∧ qf (M 2 n).toNatClampNeg w &&& nI 3 = nI q := pk_andE _ (m := nI 3) 2 (by decide)
      rw [hQ]
      have := sh_t4 ⟨q, hq⟩ ⟨n, by omega⟩
      exact or_4 (up_4 ih) ⟨_, this.2, this.1⟩
    · exact up_4 ih
theorem tpF_lt {g : Nat → Int32} : ∀ n, n ≤ 6 → (∀ t, t < n → ∃ h, h < 4 ∧ g t = nI h) → ∃ k, k < 4 ^ n ∧ tpF g n = nI k
  | 0, _, _ => ⟨0, by decide, rfl⟩
  | n + 1, hn, h => by
    have ih := tpF_lt n (by omega) (fun t ht => h t (by omega))
    obtain ⟨q, hq, hQ⟩ := h n (by omega)
    unfold tpF
    rw [hQ]
    have := sh_t4 ⟨q, hq⟩ ⟨n, by omega⟩
    exact or_4 (up_4 ih) ⟨_, this.2, this.1⟩
theorem akY_lt (M : mv_Mem) (x : Nat) : ∀ n, n ≤ 6 → ∃ k, k < 4 ^ n ∧ akY M x n = nI k
  | 0, _ => ⟨0, by decide, rfl⟩
  | n + 1, hn => by
    have ih := akY_lt M x n (by omega)
    obtain ⟨hh, h4, he⟩ := hlF_lt (nI x) n
    unfold akY
    rw [he, q_cl (by omega)]
    have hf : faF (flG M n) hh hh < 4 := Nat.lt_of_le_of_lt (faF_le _ hh hh) h4
    have := sh_t4 ⟨_, hf⟩ ⟨n, by omega⟩
    exact or_4 (up_4 ih) ⟨_, this.2, this.1⟩
theorem hnY_lt {M : mv_Mem} (hG : gM M) (h : cY M 0) : ∃ k, k < 4 ^ (M 0 3).toNatClampNeg ∧ hnY M = nI k := by
  unfold hnY
  refine tpF_lt _ (gM6 hG) (fun t ht => ?_)
  have := (h t ht).1
  rw [Nat.zero_add] at this
  exact this
theorem lhM_out {M : mv_Mem} {c : Nat} (h0 : ¬ c = 0) (h1 : ¬ c = 15) (h2 : ¬ c = 16) (h3 : ¬ c = 17) : lhM M c = M c := by
  unfold lhM lhA
  rw [loF_out h2 h3, adF_out h1, q_upO h0]
theorem lhM_0 {M : mv_Mem} {j : Nat} (h : ¬ j = 32) : lhM M 0 j = M 0 j := by
  unfold lhM lhA
  rw [loF_out (by decide) (by decide), adF_out (by decide), q_upN (by omega)]
theorem gM_lh {M : mv_Mem} (h : gM M) : gM (lhM M) := gM_of h (lhM_0 (by decide)) (lhM_0 (by decide)) (lhM_0 (by decide)) (lhM_0 (by decide)) (lhM_out (by decide) (by decide) (by decide) (by decide)) (lhM_out (by decide) (by decide) (by decide) (by decide)) (lhM_out (by decide) (by decide) (by decide) (by decide)) (lhM_out (by decide) (by decide) (by decide) (by decide))
theorem hnY_of {M N : mv_Mem} (e0 : N 0 3 = M 0 3) (e1 : N 1 = M 1) : hnY N = hnY M := by
  unfold hnY
  rw [e0, e1]
theorem stY_of {M N : mv_Mem} {p w : Nat} (e5 : N 5 = M 5) (e2 : N 2 = M 2) : ∀ n, stY N p w n = stY M p w n
  | 0 => rfl
  | n + 1 => by unfold stY; rw [e5, e2, stY_of e5 e2 n]
theorem lh_15 {M : mv_Mem} {s : Nat} (hs : s < 2 * (M 0 7).toNatClampNeg) : lhM M 15 s = stY M (s / 2) (s % 2) (M 0 3).toNatClampNeg := by
  unfold lhM
  rw [loF_out (by decide) (by decide), adF_in _ hs]
  exact stY_of (by unfold lhA; rw [q_upO (by decide)]) (by unfold lhA; rw [q_upO (by decide)]) _
theorem lh_16 {M : mv_Mem} {x : Nat} (hx : x < 4 ^ (M 0 3).toNatClampNeg) : lhM M 16 x = shY M x (M 0 3).toNatClampNeg := by
  unfold lhM
  rw [loF_16 _ hx]
  unfold shY lhA
  rw [adF_out (by decide), q_upO (by decide)]
theorem akY_of {M N : mv_Mem} {x : Nat} (e : N 3 = M 3) : ∀ n, akY N x n = akY M x n
  | 0 => rfl
  | n + 1 => by
    unfold akY flG
    rw [e, akY_of e n]
theorem lh_17 {M : mv_Mem} {x : Nat} (hx : x < 4 ^ (M 0 3).toNatClampNeg) : lhM M 17 x = akY M x (M 0 3).toNatClampNeg := by
  unfold lhM
  rw [loF_17 _ hx]
  exact akY_of (by unfold lhA; rw [adF_out (by decide), q_upO (by decide)]) _
theorem gS_lh {M : mv_Mem} (hG : gM M) : gS (lhM M) (4 ^ (M 0 3).toNatClampNeg) (M 0 7).toNatClampNeg := by
  have h6 := gM6 hG
  obtain ⟨nP, hP6, hP⟩ := hG.2.1
  refine ⟨?_, ⟨_, h6, rfl⟩, ?_, ?_, fun s hs => ?_⟩
  · unfold lhM lhA
    rw [loF_out (by decide) (by decide), adF_out (by decide), q_upS]
  · rw [lhM_0 (by decide), hP, q_cl (by omega)]
  · rw [hP, q_cl (by omega)]; exact hP6
  · rw [lh_15 hs]
    exact stY_lt M _ _ _ h6
theorem gtF_out {x y : Int32} {c : Nat} (h0 : ¬ c = 0) (h1 : ¬ c = 19) (h2 : ¬ c = 20) (h3 : ¬ c = 21) : ∀ n k M, (gtF x y n k M).2 c = M c
  | 0, _, _ => rfl
  | n + 1, k, M => by
    unfold gtF
    split
    · split
      · rfl
      · rw [gtF_out h0 h1 h2 h3 n]
        exact gfF_out h0 h1 h2 h3 _ _ _
    · rfl
theorem gtF_0 {x y : Int32} {j : Nat} (hj : ¬ j = 36) : ∀ n k M, (gtF x y n k M).2 0 j = M 0 j
  | 0, _, _ => rfl
  | n + 1, k, M => by
    unfold gtF
    split
    · split
      · rfl
      · rw [gtF_0 hj n]
        exact gfF_0 hj _ _ _
    · rfl
theorem gtM_out {M : mv_Mem} {x y : Int32} {c : Nat} (h0 : ¬ c = 0) (h1 : ¬ c = 19) (h2 : ¬ c = 20) (h3 : ¬ c = 21) : (gtM M x y).2 c = M c := by
  unfold gtM gt0
  rw [gtF_out h0 h1 h2 h3, coM_out h0 h1 h2 h3, q_upO h0, fiM_out h2]
theorem gtM_0 {M : mv_Mem} {x y : Int32} {j : Nat} (hj : ¬ j = 36) : (gtM M x y).2 0 j = M 0 j := by
  unfold gtM gt0
  rw [gtF_0 hj, coM_0 hj, q_upN (by omega), fiM_out (by decide)]
theorem gIS_gt {A nP : Nat} {x y : Int32} : ∀ n k M, gS M A nP → gI M A → gS (gtF x y n k M).2 A nP ∧ gI (gtF x y n k M).2 A ∧ ((gtF x y n k M).1 = Int32.ofInt (-4) ∨ ∃ i h, h < A ∧ (gtF x y n k M).1 = nI h ∧ (gtF x y n k M).2 21 i = nI h ∧ i < ((gtF x y n k M).2 0 36).toNatClampNeg)
  | 0, _, _, g, i => ⟨g, i, Or.inl rfl⟩
  | n + 1, k, M, g, i => by
    obtain ⟨l, h1, h2, h3⟩ := id i
    have hl := mtF_le M A
    have hA := gS_A g
    unfold gtF
    rw [h1, q_cl (show l < 2147483648 by omega)]
    by_cases c : k < l
    · rw [if_pos c]
      obtain ⟨h, hh, hH⟩ := h3 k c
      by_cases c2 : M 16 (M 21 k).toNatClampNeg = x
      · rw [if_pos c2]
        exact ⟨g, i, Or.inr ⟨k, h, hh, hH, hH, by
          show k < (M 0 36).toNatClampNeg
          rw [h1, q_cl (by omega)]
          exact c⟩⟩
      · rw [if_neg c2, hH, q_cl (show h < 2147483648 by omega)]
        have g7 : (M 0 7).toNatClampNeg = nP := by rw [g.2.2.1, q_cl (by have := g.2.2.2.1; omega)]
        have nx := gIS_gf (y := y) hh (2 * nP) 0 M (by omega) g i
        have e2 : gfM M h y = gfF h y (2 * nP) 0 M := by unfold gfM; rw [g7]
        rw [← e2] at nx
        exact gIS_gt n (k + 1) _ nx.1 nx.2
    · rw [if_neg c]
      exact ⟨g, i, Or.inl rfl⟩
/-- the like rows told, from the k-th on the line -/
def tlF : Nat → Nat → mv_Mem → Nat → Nat × mv_Mem
  | 0, _, M, c => (c, M)
  | n + 1, k, M, c => tlF n (k + 1) (mv_up M 18 (M 17 (M 21 k).toNatClampNeg).toNatClampNeg (nI 1)) (c + (if M 18 (M 17 (M 21 k).toNatClampNeg).toNatClampNeg = nI 0 then 1 else 0))
theorem lp180a {S : Nat → mv_Sp} {sh : mv_Shp} {M : mv_Mem} {P : mv_Post} {A : Nat} {y z : Option Value} (p1 : oM sh) (h32 : M 0 32 = nI A) (hA : A ≤ 4096) (hQ : ∀ x, mr180 S P 37 [some (.ref 0), x, y, z] [] sh (fiM M 18 (nI 0) A) 0 0) :
    ∀ n k, k + n = A → mr180 S P 16 [some (.ref 0), some (.int (nI k)), y, z] [] sh (fiM M 18 (nI 0) k) 0 0
  | 0, k, h => by
    obtain rfl : k = A := by omega
    have e : fiM M 18 (nI 0) k 0 32 = nI k := by rw [fiM_out (by decide)]; exact h32
    rw [e180_16]
    simp (disch := first | assumption | omega) only [e180_17, e180_18, e180_21, q_gv0, q_gvs, q_isI1, q_isA1, q_hs0, q_hsn, q_hsi, q_hsr, q_hss, q_inc1, List.set_cons_zero, List.set_cons_succ, ↓reduceIte, q_ss0, q_ssi, q_ssr, q_nr0, q_nr10, q_nr11, q_tlS, q_tlN, q_cl, q_let, q_lef, q_ltt, q_ltf, q_eqt, q_eqf, q_add, q_mul, Nat.reduceAdd, Nat.reduceLeDiff, Nat.reduceEqDiff, eq_self, Nat.zero_le, Nat.le_refl, not_false_eq_true, not_true_eq_false, true_and, and_true, and_self, if_true, if_false, p1.g32, e]
    exact hQ _
  | n + 1, k, h => by
    have ih := lp180a (S := S) p1 h32 hA hQ n (k + 1) (by omega)
    have e : fiM M 18 (nI 0) k 0 32 = nI A := by rw [fiM_out (by decide)]; exact h32
    have z0 : nI 0 = nI 0 ∨ nI 0 = nI 1 := Or.inl rfl
    have k4 : k < 4096 := by omega
    unfold fiM at ih
    rw [e180_16]
    simp (disch := first | assumption | omega) only [e180_17, e180_18, e180_21, e180_24, e180_25, e180_28, e180_29, e180_30, e180_31, e180_34, q_gv0, q_gvs, q_isI1, q_isA1, q_hs0, q_hsn, q_hsi, q_hsr, q_hss, q_inc1, List.set_cons_zero, List.set_cons_succ, ↓reduceIte, q_ss0, q_ssi, q_ssr, q_nr0, q_nr10, q_nr11, q_tlS, q_tlN, q_cl, q_let, q_lef, q_ltt, q_ltf, q_eqt, q_eqf, q_add, q_mul, Nat.reduceAdd, Nat.reduceLeDiff, Nat.reduceEqDiff, eq_self, Nat.zero_le, Nat.le_refl, not_false_eq_true, not_true_eq_false, true_and, and_true, and_self, if_true, if_false, p1.g32, p1.g31, p1.s18 k4 z0, e]
    exact ih
theorem lp180b {S : Nat → mv_Sp} {sh : mv_Shp} {P : mv_Post} {A l : Nat} (p1 : oM sh) (hl : l ≤ 4096) (hA : A ≤ 4096) :
    ∀ n k (M : mv_Mem) c z, k + n = l → M 0 36 = nI l → (∀ i, i < l → ∃ h, h < A ∧ M 21 i = nI h) → (∀ x, x < A → ∃ j, j < A ∧ M 17 x = nI j) → P (some (.int (nI (tlF n k M c).1))) sh (tlF n k M c).2 →
      mr180 S P 41 [some (.ref 0), some (.int (nI c)), some (.int (nI k)), z] [] sh M 0 0
  | 0, k, M, c, z, h, h36, h21, h17, hQ => by
    obtain rfl : k = l := by omega
    rw [e180_41]
    simp (disch := first | assumption | omega) only [e180_42, e180_43, e180_46, e180_91, e180_92, q_gv0, q_gvs, q_isI1, q_isA1, q_hs0, q_hsn, q_hsi, q_hsr, q_hss, q_inc1, List.set_cons_zero, List.set_cons_succ, ↓reduceIte, q_ss0, q_ssi, q_ssr, q_nr0, q_nr10, q_nr11, q_tlS, q_tlN, q_cl, q_let, q_lef, q_ltt, q_ltf, q_eqt, q_eqf, q_add, q_mul, Nat.reduceAdd, Nat.reduceLeDiff, Nat.reduceEqDiff, eq_self, Nat.zero_le, Nat.le_refl, not_false_eq_true, not_true_eq_false, true_and, and_true, and_self, if_true, if_false, p1.g36, h36]
    exact hQ
  | n + 1, k, M, c, z, h, h36, h21, h17, hQ => by
    obtain ⟨x, hx, hX⟩ := h21 k (by omega)
    obtain ⟨j, hj, hJ⟩ := h17 x hx
    unfold tlF at hQ
    rw [hX, q_cl (show x < 2147483648 by omega), hJ, q_cl (show j < 2147483648 by omega)] at hQ
    have z1 : nI 1 = nI 0 ∨ nI 1 = nI 1 := Or.inr rfl
    have j4 : j < 4096 := by omega
    have a1 : mv_up M 18 j (nI 1) 0 36 = nI l := by rw [q_upO (by decide)]; exact h36
    have a2 : ∀ i, i < l → ∃ h, h < A ∧ mv_up M 18 j (nI 1) 21 i = nI h := by rw [q_upO (by decide)]; exact h21
    have a3 : ∀ x, x < A → ∃ q, q < A ∧ mv_up M 18 j (nI 1) 17 x = nI q := by rw [q_upO (by decide)]; exact h17
    rw [e180_41]
    by_cases c1 : M 18 j = nI 0
    · rw [if_pos c1] at hQ
      simp (disch := first | assumption | omega) only [e180_42, e180_43, e180_46, e180_49, e180_50, e180_53, e180_54, e180_57, e180_58, e180_59, e180_60, e180_61, e180_62, e180_63, e180_66, e180_67, e180_68, e180_75, e180_76, e180_77, e180_78, e180_79, e180_82, e180_83, e180_84, e180_85, e180_88, q_gv0, q_gvs, q_isI1, q_isA1, q_hs0, q_hsn, q_hsi, q_hsr, q_hss, q_inc1, List.set_cons_zero, List.set_cons_succ, ↓reduceIte, q_ss0, q_ssi, q_ssr, q_nr0, q_nr10, q_nr11, q_tlS, q_tlN, q_cl, q_let, q_lef, q_ltt, q_ltf, q_eqt, q_eqf, q_add, q_mul, Nat.reduceAdd, Nat.reduceLeDiff, Nat.reduceEqDiff, eq_self, Nat.zero_le, Nat.le_refl, not_false_eq_true, not_true_eq_false, true_and, and_true, and_self, if_true, if_false, p1.g30, p1.g31, p1.g35, p1.g36, p1.l17, p1.l18, p1.l21, p1.s18 j4 z1, h36, hX, hJ, c1]
      exact lp180b p1 hl hA n (k + 1) _ _ _ (by omega) a1 a2 a3 hQ
    · rw [if_neg c1] at hQ
      simp (disch := first | assumption | omega) only [e180_42, e180_43, e180_46, e180_49, e180_50, e180_53, e180_54, e180_57, e180_58, e180_59, e180_60, e180_61, e180_62, e180_63, e180_66, e180_67, e180_68, e180_71, e180_72, e180_75, e180_76, e180_77, e180_78, e180_79, e180_82, e180_83, e180_84, e180_85, e180_88, q_gv0, q_gvs, q_isI1, q_isA1, q_hs0, q_hsn, q_hsi, q_hsr, q_hss, q_inc1, List.set_cons_zero, List.set_cons_succ, ↓reduceIte, q_ss0, q_ssi, q_ssr, q_nr0, q_nr10, q_nr11, q_tlS, q_tlN, q_cl, q_let, q_lef, q_ltt, q_ltf, q_eqt, q_eqf, q_add, q_mul, Nat.reduceAdd, Nat.reduceLeDiff, Nat.reduceEqDiff, eq_self, Nat.zero_le, Nat.le_refl, not_false_eq_true, not_true_eq_false, true_and, and_true, and_self, if_true, if_false, p1.g30, p1.g31, p1.g35, p1.g36, p1.l17, p1.l18, p1.l21, p1.s18 j4 z1, h36, hX, hJ, c1]
      exact lp180b p1 hl hA n (k + 1) _ _ _ (by omega) a1 a2 a3 hQ
def epY (M : mv_Mem) : Int32 := (nI 1 <<< (M 0 7 &&& 31)) - nI 1
/-- the line of all that can come -/
def cnA (M : mv_Mem) : mv_Mem := fiM (gtM (lhM M) (Int32.ofInt (-1)) (epY M)).2 18 (nI 0) (4 ^ (M 0 3).toNatClampNeg)
def cnM (M : mv_Mem) : Nat × mv_Mem := tlF (cnA M 0 36).toNatClampNeg 0 (cnA M) 0
def sp180 : mv_Sp := fun As sh M Q => As = [.ref 0] ∧ ((oM sh) ∧ (gM M) ∧ (cY M 0)) ∧ Q (some (.int (nI (cnM M).1))) (sh) ((cnM M).2)
theorem cl180 {S : Nat → mv_Sp} (hS : S 180 = sp180) {sh : mv_Shp} {M : mv_Mem}  (p1 : oM sh) (p2 : gM M) (p3 : cY M 0) {K : mv_Kt} {pc : Nat} {L : mv_Loc} {st : List Value} {cc_ ss_ : Nat} : mv_kal S 180 [.ref 0] sh M K pc L st cc_ ss_ = K pc L ((some (.int (nI (cnM M).1)) : Option Value).toList ++ st) (sh) ((cnM M).2) cc_ ss_ := by
  refine q_kal (fun F => q_cali (fun Q => ?_))
  rw [hS]
  constructor
  · rintro ⟨hE, ⟨zp1, zp2, zp3⟩, hQ⟩
    exact hQ
  · intro hQ
    exact ⟨rfl, ⟨p1, p2, p3⟩, hQ⟩
theorem ct180 {S : Nat → mv_Sp} (h169 : S 169 = sp169) (h176 : S 176 = sp176) (h179 : S 179 = sp179) : ∀ As sh M P, sp180 As sh M P → (mv_al0 As).length ≤ 4 ∧ mr180 S P 0 (mv_ent As 4) [] sh M 0 0 := by
  rintro As sh M P ⟨rfl, ⟨p1, p2, p3⟩, hQ⟩
  refine ⟨Nat.le_of_ble_eq_true rfl, ?_⟩
  show mr180 S P 0 [some (.ref 0), none, none, none] [] sh M 0 0
  obtain ⟨k, hk, hK⟩ := hnY_lt p2 p3
  have gs := gS_lh p2
  have hA := gS_A gs
  have e7 : lhM M 0 7 = M 0 7 := lhM_0 (by decide)
  have hn : ∃ n, n ≤ 6 ∧ lhM M 0 3 = nI n := by rw [lhM_0 (by decide)]; exact p2.1
  have hhn : hnY (lhM M) = nI k := (hnY_of (lhM_0 (by decide)) (lhM_out (by decide) (by decide) (by decide) (by decide))).trans hK
  have pre : ∃ A nP k, gS (lhM M) A nP ∧ k < A ∧ hnY (lhM M) = nI k := ⟨_, _, k, gs, hk, hhn⟩
  have ep : (nI 1 <<< (M 0 7 &&& 31)) - nI 1 = epY M := rfl
  simp (disch := first | assumption | omega) only [e180_0, e180_1, e180_4, e180_5, e180_6, e180_7, e180_10, e180_13, e180_14, e180_15, q_gv0, q_gvs, q_isI1, q_isA1, q_hs0, q_hsn, q_hsi, q_hsr, q_hss, q_inc1, List.set_cons_zero, List.set_cons_succ, ↓reduceIte, q_ss0, q_ssi, q_ssr, q_nr0, q_nr10, q_nr11, q_tlS, q_tlN, q_cl, q_let, q_lef, q_ltt, q_ltf, q_eqt, q_eqf, q_add, q_mul, Nat.reduceAdd, Nat.reduceLeDiff, Nat.reduceEqDiff, eq_self, Nat.zero_le, Nat.le_refl, not_false_eq_true, not_true_eq_false, true_and, and_true, and_self, if_true, if_false, p1.o, cl169 h169, cl176 h176, e7, ep, cl179 h179]
  have gi0 := gI_gt0 gs hk hhn
  have gi := gIS_gt (x := Int32.ofInt (-1)) (y := epY M) 4097 0 _ gi0.1 gi0.2
  have eg : gtF (Int32.ofInt (-1)) (epY M) 4097 0 (gt0 (lhM M)) = gtM (lhM M) (Int32.ofInt (-1)) (epY M) := rfl
  rw [eg] at gi
  have e17 : (gtM (lhM M) (Int32.ofInt (-1)) (epY M)).2 17 = lhM M 17 := gtM_out (by decide) (by decide) (by decide) (by decide)
  have hc : fiM (gtM (lhM M) (Int32.ofInt (-1)) (epY M)).2 18 (nI 0) (4 ^ (M 0 3).toNatClampNeg) = cnA M := rfl
  unfold cnM at hQ
  obtain ⟨g1, ⟨l, h1, h2, h3⟩, -⟩ := gi
  have hl := mtF_le (gtM (lhM M) (Int32.ofInt (-1)) (epY M)).2 (4 ^ (M 0 3).toNatClampNeg)
  have c36 : cnA M 0 36 = nI l := by rw [← hc, fiM_out (by decide)]; exact h1
  have c21 : ∀ i, i < l → ∃ h, h < 4 ^ (M 0 3).toNatClampNeg ∧ cnA M 21 i = nI h := by rw [← hc, fiM_out (by decide)]; exact h3
  have c17 : ∀ x, x < 4 ^ (M 0 3).toNatClampNeg → ∃ j, j < 4 ^ (M 0 3).toNatClampNeg ∧ cnA M 17 x = nI j := by
    intro x hx
    rw [← hc, fiM_out (by decide), e17, lh_17 hx]
    exact akY_lt M x _ (gM6 p2)
  rw [c36, q_cl (by omega)] at hQ
  refine lp180a (M := (gtM (lhM M) (Int32.ofInt (-1)) (epY M)).2) p1 g1.1 hA (fun z => ?_) _ 0 (Nat.zero_add _)
  rw [hc]
  simp (disch := first | assumption | omega) only [e180_37, e180_38, e180_39, e180_40, q_gv0, q_gvs, q_isI1, q_isA1, q_hs0, q_hsn, q_hsi, q_hsr, q_hss, q_inc1, List.set_cons_zero, List.set_cons_succ, ↓reduceIte, q_ss0, q_ssi, q_ssr, q_nr0, q_nr10, q_nr11, q_tlS, q_tlN, q_cl, q_let, q_lef, q_ltt, q_ltf, q_eqt, q_eqf, q_add, q_mul, Nat.reduceAdd, Nat.reduceLeDiff, Nat.reduceEqDiff, eq_self, Nat.zero_le, Nat.le_refl, not_false_eq_true, not_true_eq_false, true_and, and_true, and_self, if_true, if_false]
  exact lp180b p1 (by omega) hA l 0 (cnA M) 0 none (by omega) c36 c21 c17 hQ
/-- amiss -/
def amW (N : mv_Mem) (c : Int32) (h : Nat) : Nat → Int32
  | 0 => nI 0
  | t + 1 => if N 16 (plN h (3 <<< (2 * t))) = c then (if N 16 (plN h (1 <<< (2 * t))) = c then amW N c h t ||| (nI 1 <<< (nI t &&& 31)) else amW N c h t) ||| (nI 64 <<< (nI t &&& 31)) else (if N 16 (plN h (1 <<< (2 * t))) = c then amW N c h t ||| (nI 1 <<< (nI t &&& 31)) else amW N c h t)
theorem lp172 {S : Nat → mv_Sp} (h170 : S 170 = sp170) (h171 : S 171 = sp171) {sh : mv_Shp} {N : mv_Mem} {P : mv_Post} {nT h : Nat} {x : Int32} (p1 : oM sh) (hT : N 0 3 = nI nT) (hT6 : nT ≤ 6) (hh : h < 4 ^ nT) (hH : hnY N = nI h) (hQ : P (some (.int (amW N x h nT))) sh N) :
    ∀ n t, t + n = nT → mr172 S P 18 [some (.ref 0), some (.int x), some (.int (amW N x h t)), some (.int (nI t))] [] sh N 0 0
  | 0, t, e => by
    obtain rfl : t = nT := by omega
    rw [e172_18]
    simp (disch := first | assumption | omega) only [e172_0, e172_1, e172_2, e172_5, e172_8, e172_9, e172_10, e172_11, e172_14, e172_15, e172_16, e172_17, e172_19, e172_20, e172_23, e172_26, e172_27, e172_28, e172_31, e172_32, e172_35, e172_36, e172_37, e172_38, e172_39, e172_40, e172_43, e172_44, e172_45, e172_48, e172_49, e172_50, e172_51, e172_54, e172_55, e172_56, e172_57, e172_58, e172_59, e172_62, e172_63, e172_66, e172_67, e172_68, e172_69, e172_70, e172_71, e172_74, e172_75, e172_76, e172_79, e172_81, e172_82, e172_83, e172_86, e172_87, e172_88, e172_89, e172_92, e172_95, e172_96, q_gv0, q_gvs, q_isI1, q_isA1, q_hs0, q_hsn, q_hsi, q_hsr, q_hss, q_inc1, List.set_cons_zero, List.set_cons_succ, ↓reduceIte, q_ss0, q_ssi, q_ssr, q_nr0, q_nr10, q_nr11, q_tlS, q_tlN, q_cl, q_let, q_lef, q_ltt, q_ltf, q_eqt, q_eqf, q_add, q_mul, Nat.reduceAdd, Nat.reduceLeDiff, Nat.reduceEqDiff, eq_self, Nat.zero_le, Nat.le_refl, not_false_eq_true, not_true_eq_false, true_and, and_true, and_self, if_true, if_false, p1.g3, hT]
    exact hQ
  | n + 1, t, e => by
    have ih := lp172 h170 h171 p1 hT hT6 hh hH hQ n (t + 1) (by omega)
    have hn : ∃ n, n ≤ 6 ∧ N 0 3 = nI n := ⟨nT, hT6, hT⟩
    have a4 : 4 ^ nT ≤ 4096 := (four ⟨nT, by omega⟩).2
    have le : 4 ^ (t + 1) ≤ 4 ^ nT := Nat.pow_le_pow_right (by decide) (by omega)
    have s1 := sh_t4 ⟨1, by decide⟩ ⟨t, by omega⟩
    have s3 := sh_t4 ⟨3, by decide⟩ ⟨t, by omega⟩
    have b1 : plN h (1 <<< (2 * t)) < 4096 := Nat.lt_of_lt_of_le (plN_lt hT6 hh (Nat.lt_of_lt_of_le s1.2 le)) a4
    have b3 : plN h (3 <<< (2 * t)) < 4096 := Nat.lt_of_lt_of_le (plN_lt hT6 hh (Nat.lt_of_lt_of_le s3.2 le)) a4
    have s1 : nI 1 <<< (nI (2 * t) &&& 31) = nI (1 <<< (2 * t)) := s1.1
    have s3 : nI 3 <<< (nI (2 * t) &&& 31) = nI (3 <<< (2 * t)) := s3.1
    unfold amW at ih
    generalize amW N x h t = B at *
    rw [e172_18]
    by_cases c1 : N 16 (plN h (1 <<< (2 * t))) = x
    · by_cases c3 : N 16 (plN h (3 <<< (2 * t))) = x
      · rw [if_pos c3, if_pos c1] at ih
        simp (disch := first | assumption | omega) only [e172_0, e172_1, e172_2, e172_5, e172_8, e172_9, e172_10, e172_11, e172_14, e172_15, e172_16, e172_17, e172_19, e172_20, e172_23, e172_26, e172_27, e172_28, e172_31, e172_32, e172_35, e172_36, e172_37, e172_38, e172_39, e172_40, e172_43, e172_44, e172_45, e172_48, e172_49, e172_50, e172_51, e172_54, e172_55, e172_56, e172_57, e172_58, e172_59, e172_62, e172_63, e172_66, e172_67, e172_68, e172_69, e172_70, e172_71, e172_74, e172_75, e172_76, e172_79, e172_81, e172_82, e172_83, e172_86, e172_87, e172_88, e172_89, e172_92, e172_95, e172_96, q_gv0, q_gvs, q_isI1, q_isA1, q_hs0, q_hsn, q_hsi, q_hsr, q_hss, q_inc1, List.set_cons_zero, List.set_cons_succ, ↓reduceIte, q_ss0, q_ssi, q_ssr, q_nr0, q_nr10, q_nr11, q_tlS, q_tlN, q_cl, q_let, q_lef, q_ltt, q_ltf, q_eqt, q_eqf, q_add, q_mul, Nat.reduceAdd, Nat.reduceLeDiff, Nat.reduceEqDiff, eq_self, Nat.zero_le, Nat.le_refl, not_false_eq_true, not_true_eq_false, true_and, and_true, and_self, if_true, if_false, p1.o, p1.g3, p1.g29, p1.l16, hT, cl170 h170, hH, s1, s3, cr171 h171, c1, c3]
        exact ih
      · rw [if_neg c3, if_pos c1] at ih
        simp (disch := first | assumption | omega) only [e172_0, e172_1, e172_2, e172_5, e172_8, e172_9, e172_10, e172_11, e172_14, e172_15, e172_16, e172_17, e172_19, e172_20, e172_23, e172_26, e172_27, e172_28, e172_31, e172_32, e172_35, e172_36, e172_37, e172_38, e172_39, e172_40, e172_43, e172_44, e172_45, e172_48, e172_49, e172_50, e172_51, e172_54, e172_55, e172_56, e172_57, e172_58, e172_59, e172_62, e172_63, e172_66, e172_67, e172_68, e172_69, e172_70, e172_71, e172_74, e172_75, e172_76, e172_79, e172_81, e172_82, e172_83, e172_86, e172_87, e172_88, e172_89, e172_92, e172_95, e172_96, q_gv0, q_gvs, q_isI1, q_isA1, q_hs0, q_hsn, q_hsi, q_hsr, q_hss, q_inc1, List.set_cons_zero, List.set_cons_succ, ↓reduceIte, q_ss0, q_ssi, q_ssr, q_nr0, q_nr10, q_nr11, q_tlS, q_tlN, q_cl, q_let, q_lef, q_ltt, q_ltf, q_eqt, q_eqf, q_add, q_mul, Nat.reduceAdd, Nat.reduceLeDiff, Nat.reduceEqDiff, eq_self, Nat.zero_le, Nat.le_refl, not_false_eq_true, not_true_eq_false, true_and, and_true, and_self, if_true, if_false, p1.o, p1.g3, p1.g29, p1.l16, hT, cl170 h170, hH, s1, s3, cr171 h171, c1, c3, i0o]
        exact ih
    · by_cases c3 : N 16 (plN h (3 <<< (2 * t))) = x
      · rw [if_pos c3, if_neg c1] at ih
        simp (disch := first | assumption | omega) only [e172_0, e172_1, e172_2, e172_5, e172_8, e172_9, e172_10, e172_11, e172_14, e172_15, e172_16, e172_17, e172_19, e172_20, e172_23, e172_26, e172_27, e172_28, e172_31, e172_32, e172_35, e172_36, e172_37, e172_38, e172_39, e172_40, e172_43, e172_44, e172_45, e172_48, e172_49, e172_50, e172_51, e172_54, e172_55, e172_56, e172_57, e172_58, e172_59, e172_62, e172_63, e172_66, e172_67, e172_68, e172_69, e172_70, e172_71, e172_74, e172_75, e172_76, e172_79, e172_81, e172_82, e172_83, e172_86, e172_87, e172_88, e172_89, e172_92, e172_95, e172_96, q_gv0, q_gvs, q_isI1, q_isA1, q_hs0, q_hsn, q_hsi, q_hsr, q_hss, q_inc1, List.set_cons_zero, List.set_cons_succ, ↓reduceIte, q_ss0, q_ssi, q_ssr, q_nr0, q_nr10, q_nr11, q_tlS, q_tlN, q_cl, q_let, q_lef, q_ltt, q_ltf, q_eqt, q_eqf, q_add, q_mul, Nat.reduceAdd, Nat.reduceLeDiff, Nat.reduceEqDiff, eq_self, Nat.zero_le, Nat.le_refl, not_false_eq_true, not_true_eq_false, true_and, and_true, and_self, if_true, if_false, p1.o, p1.g3, p1.g29, p1.l16, hT, cl170 h170, hH, s1, s3, cr171 h171, c1, c3, i0o]
        exact ih
      · rw [if_neg c3, if_neg c1] at ih
        simp (disch := first | assumption | omega) only [e172_0, e172_1, e172_2, e172_5, e172_8, e172_9, e172_10, e172_11, e172_14, e172_15, e172_16, e172_17, e172_19, e172_20, e172_23, e172_26, e172_27, e172_28, e172_31, e172_32, e172_35, e172_36, e172_37, e172_38, e172_39, e172_40, e172_43, e172_44, e172_45, e172_48, e172_49, e172_50, e172_51, e172_54, e172_55, e172_56, e172_57, e172_58, e172_59, e172_62, e172_63, e172_66, e172_67, e172_68, e172_69, e172_70, e172_71, e172_74, e172_75, e172_76, e172_79, e172_81, e172_82, e172_83, e172_86, e172_87, e172_88, e172_89, e172_92, e172_95, e172_96, q_gv0, q_gvs, q_isI1, q_isA1, q_hs0, q_hsn, q_hsi, q_hsr, q_hss, q_inc1, List.set_cons_zero, List.set_cons_succ, ↓reduceIte, q_ss0, q_ssi, q_ssr, q_nr0, q_nr10, q_nr11, q_tlS, q_tlN, q_cl, q_let, q_lef, q_ltt, q_ltf, q_eqt, q_eqf, q_add, q_mul, Nat.reduceAdd, Nat.reduceLeDiff, Nat.reduceEqDiff, eq_self, Nat.zero_le, Nat.le_refl, not_false_eq_true, not_true_eq_false, true_and, and_true, and_self, if_true, if_false, p1.o, p1.g3, p1.g29, p1.l16, hT, cl170 h170, hH, s1, s3, cr171 h171, c1, c3, i0o]
        exact ih
def sp172 : mv_Sp := fun As sh M Q => ∃ (x : Int32), As = [.ref 0, .int x] ∧ ((oM sh) ∧ (gM M) ∧ (cY M 0)) ∧ Q (some (.int (if x < nI 0 then Int32.ofInt (-1) else if nI (10 ^ (M 0 3).toNatClampNeg) ≤ x then Int32.ofInt (-1) else amW (lhM M) x (hnY M).toNatClampNeg (M 0 3).toNatClampNeg))) (sh) (if x < nI 0 then M else if nI (10 ^ (M 0 3).toNatClampNeg) ≤ x then M else lhM M)
theorem cl172 {S : Nat → mv_Sp} (hS : S 172 = sp172) {sh : mv_Shp} {M : mv_Mem} {x : Int32} (p1 : oM sh) (p2 : gM M) (p3 : cY M 0) {K : mv_Kt} {pc : Nat} {L : mv_Loc} {st : List Value} {cc_ ss_ : Nat} : mv_kal S 172 [.ref 0, .int x] sh M K pc L st cc_ ss_ = K pc L ((some (.int (if x < nI 0 then Int32.ofInt (-1) else if nI (10 ^ (M 0 3).toNatClampNeg) ≤ x then Int32.ofInt (-1) else amW (lhM M) x (hnY M).toNatClampNeg (M 0 3).toNatClampNeg)) : Option Value).toList ++ st) (sh) (if x < nI 0 then M else if nI (10 ^ (M 0 3).toNatClampNeg) ≤ x then M else lhM M) cc_ ss_ := by
  refine q_kal (fun F => q_cali (fun Q => ?_))
  rw [hS]
  constructor
  · rintro ⟨x', hE, ⟨zp1, zp2, zp3⟩, hQ⟩
    simp only [List.cons.injEq, Value.ref.injEq, Value.int.injEq, Value.long.injEq, and_true, true_and] at hE
    subst hE
    exact hQ
  · intro hQ
    exact ⟨x, rfl, ⟨p1, p2, p3⟩, hQ⟩
theorem ct172 {S : Nat → mv_Sp} (h167 : S 167 = sp167) (h169 : S 169 = sp169) (h170 : S 170 = sp170) (h171 : S 171 = sp171) : ∀ As sh M P, sp172 As sh M P → (mv_al0 As).length ≤ 4 ∧ mr172 S P 0 (mv_ent As 4) [] sh M 0 0 := by
  rintro As sh M P ⟨x, rfl, ⟨p1, p2, p3⟩, hQ⟩
  refine ⟨Nat.le_of_ble_eq_true rfl, ?_⟩
  show mr172 S P 0 [some (.ref 0), some (.int x), none, none] [] sh M 0 0
  have hn : ∃ n, n ≤ 6 ∧ M 0 3 = nI n := p2.1
  by_cases c1 : x < nI 0
  · rw [if_pos c1, if_pos c1] at hQ
    simp (disch := first | assumption | omega) only [e172_0, e172_1, e172_2, e172_5, e172_8, e172_9, e172_10, e172_11, e172_14, e172_15, e172_16, e172_17, e172_19, e172_20, e172_23, e172_26, e172_27, e172_28, e172_31, e172_32, e172_35, e172_36, e172_37, e172_38, e172_39, e172_40, e172_43, e172_44, e172_45, e172_48, e172_49, e172_50, e172_51, e172_54, e172_55, e172_56, e172_57, e172_58, e172_59, e172_62, e172_63, e172_66, e172_67, e172_68, e172_69, e172_70, e172_71, e172_74, e172_75, e172_76, e172_79, e172_81, e172_82, e172_83, e172_86, e172_87, e172_88, e172_89, e172_92, e172_95, e172_96, q_gv0, q_gvs, q_isI1, q_isA1, q_hs0, q_hsn, q_hsi, q_hsr, q_hss, q_inc1, List.set_cons_zero, List.set_cons_succ, ↓reduceIte, q_ss0, q_ssi, q_ssr, q_nr0, q_nr10, q_nr11, q_tlS, q_tlN, q_cl, q_let, q_lef, q_ltt, q_ltf, q_eqt, q_eqf, q_add, q_mul, Nat.reduceAdd, Nat.reduceLeDiff, Nat.reduceEqDiff, eq_self, Nat.zero_le, Nat.le_refl, not_false_eq_true, not_true_eq_false, true_and, and_true, and_self, if_true, if_false, p1.o, c1, cl167 h167]
    exact hQ
  rw [if_neg c1, if_neg c1] at hQ
  by_cases c2 : nI (10 ^ (M 0 3).toNatClampNeg) ≤ x
  · rw [if_pos c2, if_pos c2] at hQ
    simp (disch := first | assumption | omega) only [e172_0, e172_1, e172_2, e172_5, e172_8, e172_9, e172_10, e172_11, e172_14, e172_15, e172_16, e172_17, e172_19, e172_20, e172_23, e172_26, e172_27, e172_28, e172_31, e172_32, e172_35, e172_36, e172_37, e172_38, e172_39, e172_40, e172_43, e172_44, e172_45, e172_48, e172_49, e172_50, e172_51, e172_54, e172_55, e172_56, e172_57, e172_58, e172_59, e172_62, e172_63, e172_66, e172_67, e172_68, e172_69, e172_70, e172_71, e172_74, e172_75, e172_76, e172_79, e172_81, e172_82, e172_83, e172_86, e172_87, e172_88, e172_89, e172_92, e172_95, e172_96, q_gv0, q_gvs, q_isI1, q_isA1, q_hs0, q_hsn, q_hsi, q_hsr, q_hss, q_inc1, List.set_cons_zero, List.set_cons_succ, ↓reduceIte, q_ss0, q_ssi, q_ssr, q_nr0, q_nr10, q_nr11, q_tlS, q_tlN, q_cl, q_let, q_lef, q_ltt, q_ltf, q_eqt, q_eqf, q_add, q_mul, Nat.reduceAdd, Nat.reduceLeDiff, Nat.reduceEqDiff, eq_self, Nat.zero_le, Nat.le_refl, not_false_eq_true, not_true_eq_false, true_and, and_true, and_self, if_true, if_false, p1.o, c1, c2, cl167 h167]
    exact hQ
  rw [if_neg c2, if_neg c2] at hQ
  obtain ⟨k, hk, hK⟩ := hnY_lt p2 p3
  obtain ⟨nT, h6, hT⟩ := id p2.1
  have a4 : 4 ^ nT ≤ 4096 := (four ⟨nT, by omega⟩).2
  rw [hT, q_cl (show nT < 2147483648 by omega)] at hk
  rw [hK, hT, q_cl (show nT < 2147483648 by omega), q_cl (show k < 2147483648 by omega)] at hQ
  simp (disch := first | assumption | omega) only [e172_0, e172_1, e172_2, e172_5, e172_8, e172_9, e172_10, e172_11, e172_14, e172_15, e172_16, e172_17, e172_19, e172_20, e172_23, e172_26, e172_27, e172_28, e172_31, e172_32, e172_35, e172_36, e172_37, e172_38, e172_39, e172_40, e172_43, e172_44, e172_45, e172_48, e172_49, e172_50, e172_51, e172_54, e172_55, e172_56, e172_57, e172_58, e172_59, e172_62, e172_63, e172_66, e172_67, e172_68, e172_69, e172_70, e172_71, e172_74, e172_75, e172_76, e172_79, e172_81, e172_82, e172_83, e172_86, e172_87, e172_88, e172_89, e172_92, e172_95, e172_96, q_gv0, q_gvs, q_isI1, q_isA1, q_hs0, q_hsn, q_hsi, q_hsr, q_hss, q_inc1, List.set_cons_zero, List.set_cons_succ, ↓reduceIte, q_ss0, q_ssi, q_ssr, q_nr0, q_nr10, q_nr11, q_tlS, q_tlN, q_cl, q_let, q_lef, q_ltt, q_ltf, q_eqt, q_eqf, q_add, q_mul, Nat.reduceAdd, Nat.reduceLeDiff, Nat.reduceEqDiff, eq_self, Nat.zero_le, Nat.le_refl, not_false_eq_true, not_true_eq_false, true_and, and_true, and_self, if_true, if_false, p1.o, c1, c2, cl167 h167, cl169 h169]
  exact lp172 h170 h171 p1 (by rw [lhM_0 (by decide)]; exact hT) h6 hk ((hnY_of (lhM_0 (by decide)) (lhM_out (by decide) (by decide) (by decide) (by decide))).trans hK) hQ nT 0 (by omega)
