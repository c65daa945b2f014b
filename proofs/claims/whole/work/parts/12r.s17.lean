/-! rows counted -/
theorem alF_lt {M : mv_Mem} {a : Nat} {x : Int32} (h : ∀ i, i < 24 → ∃ k, k < 4 ∧ M (a + 4) i = nI k) : ∀ n, n ≤ 6 → ∃ k, k < 4096 ∧ alF M a x n = nI k
  | 0, _ => ⟨0, by decide, rfl⟩
  | n + 1, hn => by
    have ih := alF_lt (x := x) h n (by omega)
    obtain ⟨hh, h4, he⟩ := hlF_lt x n
    unfold alF
    rw [he, q_cl (by omega)]
    obtain ⟨q, hq, hQ⟩ := h (n * 4 + hh) (by omega)
    rw [hQ]
    have := sh_top ⟨q, hq⟩ ⟨n, by omega⟩
    exact or_top ih ⟨_, this.2, this.1⟩
def alN (M : mv_Mem) (o x : Nat) : Nat := (alF M o (nI x) (M o 0).toNatClampNeg).toNatClampNeg
def ctI (a o : Nat) : Nat → Nat → mv_Mem → mv_Mem
  | 0, _, M => M
  | n + 1, j, M => ctI a o n (j + 1) (enM M a (alN M o (M (a + 1) j).toNatClampNeg) (Int32.ofInt (-1)))
def ct0 (M : mv_Mem) (a : Nat) : mv_Mem := mv_up (fiM M (a + 2) (nI 0) 4096) a 3 (nI 0)
def ctM (M : mv_Mem) (a o : Nat) : mv_Mem := ctI a o (M a 3).toNatClampNeg 0 (ct0 M a)
theorem enM_out {M : mv_Mem} {a x b : Nat} {v : Int32} (h : ¬ b = a) (h1 : ¬ b = a + 1) (h2 : ¬ b = a + 2) : enM M a x v b = M b := by
  unfold enM
  split
  · split
    · rfl
    · rw [q_upO h, q_upO h1, q_upO h2]
  · rfl
theorem gL_en {M : mv_Mem} {a x o : Nat} {v : Int32} (h : gL M o) (ho : o + 6 < a) : gL (enM M a x v) o :=
  gL_of h (enM_out (by omega) (by omega) (by omega)) (enM_out (by omega) (by omega) (by omega)) (enM_out (by omega) (by omega) (by omega)) (enM_out (by omega) (by omega) (by omega)) (enM_out (by omega) (by omega) (by omega)) (enM_out (by omega) (by omega) (by omega)) (enM_out (by omega) (by omega) (by omega))
theorem lp89 {S : Nat → mv_Sp} (h82 : S 82 = sp82) (h88 : S 88 = sp88) {sh : mv_Shp} {P : mv_Post} {a o l0 : Nat} (p1 : oS sh a) (p2 : oL sh o) (p3 : o + 6 < a) (hl0 : l0 < 4097) :
    ∀ n j (M : mv_Mem), j + n = l0 → sO M a l0 → gL M o → P (some (.int (ctI a o n j M a 3))) sh (ctI a o n j M) →
      mr89 S P 20 [some (.ref a), some (.ref o), some (.int (nI l0)), some (.int (nI j))] [] sh M 0 0
  | 0, j, M, h, hM, hG, hQ => by
    obtain rfl : j = l0 := by omega
    rw [e89_20]
    simp (disch := first | assumption | omega) only [e89_0, e89_1, e89_4, e89_5, e89_8, e89_9, e89_12, e89_13, e89_14, e89_15, e89_18, e89_19, e89_21, e89_22, e89_25, e89_26, e89_29, e89_32, e89_33, e89_34, e89_35, e89_38, e89_39, e89_40, e89_43, e89_44, e89_47, e89_50, e89_53, e89_54, e89_57, q_gv0, q_gvs, q_isI1, q_isA1, q_hs0, q_hsn, q_hsi, q_hsr, q_hss, q_inc1, List.set_cons_zero, List.set_cons_succ, ↓reduceIte, q_ss0, q_ssi, q_ssr, q_nr0, q_nr10, q_nr11, q_tlS, q_tlN, q_cl, q_let, q_lef, q_ltt, q_ltf, q_eqt, q_eqf, q_add, q_mul, Nat.reduceAdd, Nat.reduceLeDiff, Nat.reduceEqDiff, eq_self, Nat.zero_le, Nat.le_refl, not_false_eq_true, not_true_eq_false, true_and, and_true, and_self, if_true, if_false, p1.g3]
    exact hQ
  | n + 1, j, M, h, hM, hG, hQ => by
    obtain ⟨e, he, hE⟩ := hM.2.1 j (by omega)
    obtain ⟨nT, h6, hT⟩ := hG.1
    have g0 := hG.1
    obtain ⟨k, hk, hK⟩ := alF_lt (x := nI e) hG.2.2.2.2.2.2.2.1 nT h6
    unfold ctI at hQ
    have ek : alN M o e = k := by unfold alN; rw [hT, q_cl (by omega), hK, q_cl (by omega)]
    rw [hE, q_cl (show e < 2147483648 by omega), ek] at hQ
    have hl := hM.1
    rw [e89_20]
    simp (disch := first | assumption | omega) only [e89_0, e89_1, e89_4, e89_5, e89_8, e89_9, e89_12, e89_13, e89_14, e89_15, e89_18, e89_19, e89_21, e89_22, e89_25, e89_26, e89_29, e89_32, e89_33, e89_34, e89_35, e89_38, e89_39, e89_40, e89_43, e89_44, e89_47, e89_50, e89_53, e89_54, e89_57, q_gv0, q_gvs, q_isI1, q_isA1, q_hs0, q_hsn, q_hsi, q_hsr, q_hss, q_inc1, List.set_cons_zero, List.set_cons_succ, ↓reduceIte, q_ss0, q_ssi, q_ssr, q_nr0, q_nr10, q_nr11, q_tlS, q_tlN, q_cl, q_let, q_lef, q_ltt, q_ltf, q_eqt, q_eqf, q_add, q_mul, Nat.reduceAdd, Nat.reduceLeDiff, Nat.reduceEqDiff, eq_self, Nat.zero_le, Nat.le_refl, not_false_eq_true, not_true_eq_false, true_and, and_true, and_self, if_true, if_false, p1.g0, p1.l1, p1.o, p2.o, hE, cl88 h88, hT, hK, cl82 h82]
    exact lp89 h82 h88 p1 p2 p3 hl0 n (j + 1) _ (by omega) (sO_en hM hk) (gL_en hG p3) hQ
def sp89 : mv_Sp := fun As sh M Q => ∃ (a : Nat) (o : Nat), As = [.ref a, .ref o] ∧ ((oS sh a) ∧ (oL sh o) ∧ (o + 6 < a) ∧ (gL M o) ∧ (sL M a)) ∧ Q (some (.int (ctM M a o a 3))) (sh) (ctM M a o)
theorem cl89 {S : Nat → mv_Sp} (hS : S 89 = sp89) {sh : mv_Shp} {M : mv_Mem} {a : Nat} {o : Nat} (p1 : oS sh a) (p2 : oL sh o) (p3 : o + 6 < a) (p4 : gL M o) (p5 : sL M a) {K : mv_Kt} {pc : Nat} {L : mv_Loc} {st : List Value} {cc_ ss_ : Nat} : mv_kal S 89 [.ref a, .ref o] sh M K pc L st cc_ ss_ = K pc L ((some (.int (ctM M a o a 3)) : Option Value).toList ++ st) (sh) (ctM M a o) cc_ ss_ := by
  refine q_kal (fun F => q_cali (fun Q => ?_))
  rw [hS]
  constructor
  · rintro ⟨a', o', hE, ⟨zp1, zp2, zp3, zp4, zp5⟩, hQ⟩
    simp only [List.cons.injEq, Value.ref.injEq, Value.int.injEq, Value.long.injEq, and_true, true_and] at hE
    obtain ⟨rfl, rfl⟩ := hE
    exact hQ
  · intro hQ
    exact ⟨a, o, rfl, ⟨p1, p2, p3, p4, p5⟩, hQ⟩
theorem ct89 {S : Nat → mv_Sp} (h42 : S 42 = sp42) (h82 : S 82 = sp82) (h88 : S 88 = sp88) : ∀ As sh M P, sp89 As sh M P → (mv_al0 As).length ≤ 4 ∧ mr89 S P 0 (mv_ent As 4) [] sh M 0 0 := by
  rintro As sh M P ⟨a, o, rfl, ⟨p1, p2, p3, p4, p5⟩, hQ⟩
  refine ⟨Nat.le_of_ble_eq_true rfl, ?_⟩
  show mr89 S P 0 [some (.ref a), some (.ref o), none, none] [] sh M 0 0
  obtain ⟨l, hl, hL⟩ := p5.1
  unfold sL at p5
  rw [hL, q_cl (by omega)] at p5
  unfold ctM at hQ
  rw [hL, q_cl (by omega)] at hQ
  have z1 := p1.z2
  have e1 : lnS sh (a + 2) = 4096 := lnS_of z1
  have z2 : sh[a + 2]? = some (.inl (0, lnS sh (a + 2))) := by rw [e1]; exact z1
  have z3 : lnS sh (a + 2) < 100000 := by rw [e1]; decide
  have hs : sO (ct0 M a) a l := by
    unfold ct0
    refine ⟨⟨0, by decide, q_upS⟩, fun i hi => ?_, fun i hi => ?_⟩
    · rw [q_upO (by omega), fiM_out (by omega)]; exact p5.2.1 i hi
    · rw [q_upO (by omega), fiM_out (by omega)]; exact p5.2.2 i hi
  have ho : ∀ b, ¬ b = a → ¬ b = a + 2 → ct0 M a b = M b := by
    intro b y1 y2
    unfold ct0
    rw [q_upO y1, fiM_out y2]
  have hg : gL (ct0 M a) o := gL_of p4 (ho _ (by omega) (by omega)) (ho _ (by omega) (by omega)) (ho _ (by omega) (by omega)) (ho _ (by omega) (by omega)) (ho _ (by omega) (by omega)) (ho _ (by omega) (by omega)) (ho _ (by omega) (by omega))
  have e3 : fiM M (a + 2) (nI 0) 4096 a = M a := fiM_out (by omega) _
  simp (disch := first | assumption | omega) only [e89_0, e89_1, e89_4, e89_5, e89_8, e89_9, e89_12, e89_13, e89_14, e89_15, e89_18, e89_19, q_gv0, q_gvs, q_isI1, q_isA1, q_hs0, q_hsn, q_hsi, q_hsr, q_hss, q_inc1, List.set_cons_zero, List.set_cons_succ, ↓reduceIte, q_ss0, q_ssi, q_ssr, q_nr0, q_nr10, q_nr11, q_tlS, q_tlN, q_cl, q_let, q_lef, q_ltt, q_ltf, q_eqt, q_eqf, q_add, q_mul, Nat.reduceAdd, Nat.reduceLeDiff, Nat.reduceEqDiff, eq_self, Nat.zero_le, Nat.le_refl, not_false_eq_true, not_true_eq_false, true_and, and_true, and_self, if_true, if_false, p1.g1, p1.g3, p1.p3, cl42 h42, e1, e3, hL]
  exact lp89 h82 h88 p1 p2 p3 hl l 0 (ct0 M a) (by omega) hs hg hQ
