/-! the model: an item, the text -/
theorem m39_out {X : mv_Mem} {b : Nat} (h : b < 10 ∨ 17 < b) : m39 X b = X b := by
  have f : fwM X b = X b := by unfold fwM; exact q_upO (by omega)
  have a32 : ∀ Y : mv_Mem, m32 Y b = Y b := by
    intro Y
    unfold m32
    split
    · rw [q_upO (by omega), at_o (by omega) (by omega) (by omega) (by omega) (by omega)]
    · exact q_upO (by omega)
  have a34 : ∀ Y : mv_Mem, m34 Y b = Y b := by
    intro Y
    unfold m34
    split
    · rw [q_upO (by omega), q_upO (by omega), q_upO (by omega)]
    · exact q_upO (by omega)
  have a35 : ∀ Y : mv_Mem, m35 Y b = Y b := by
    intro Y
    unfold m35
    split
    · rw [q_upO (by omega), q_upO (by omega)]
    · exact q_upO (by omega)
  have a38 : ∀ Y : mv_Mem, m38 Y b = Y b := by
    intro Y
    unfold m38 drR
    rw [q_upO (by omega), drF_out (by omega) (by omega), q_upO (by omega)]
  unfold m39
  split
  · rw [a32, f]
  split
  · rw [a34, f]
  split
  · rw [a35, f]
  split
  · rw [a38, f]
  · exact f
theorem lx_39 {X : mv_Mem} : lx (m39 X) = lx X := by
  funext p
  unfold lx
  rw [m39_out (by decide), m39_out (by decide)]
theorem nbP_ge (T : Nat → Nat) (p : Nat) : p ≤ nbP T p := by
  unfold nbP
  split
  · omega
  split <;> omega
theorem pmF_ge (T : Nat → Nat) (nT : Nat) : ∀ n p x, p ≤ (pmF T nT n p x).2.1
  | 0, _, _ => Nat.le_refl _
  | n + 1, p, x => by
    unfold pmF
    split
    · exact Nat.le_refl _
    split
    · exact Nat.le_refl _
    split
    · exact Nat.le_refl _
    · have := pmF_ge T nT n (p + 1) (x ||| (nI 1 <<< (nI (fgF T p - 1) &&& 31)))
      omega
theorem dmF_ge (T : Nat → Nat) (nP : Nat) : ∀ n k p d, p ≤ (dmF T nP n k p d).2.1
  | 0, _, _, _ => Nat.le_refl _
  | n + 1, k, p, d => by
    unfold dmF
    split
    · exact Nat.le_refl _
    split
    · exact Nat.le_refl _
    split
    · split
      · exact Nat.le_refl _
      · have := dmF_ge T nP n (k + 1) (p + 1 + 1) (upd d k (nI (10 * (fgF T p - 1) + 0)))
        omega
    split
    · split
      · exact Nat.le_refl _
      · have := dmF_ge T nP n (k + 1) (p + 1 + 1) (upd d k (nI (10 * (fgF T p - 1) + 1)))
        omega
    · exact Nat.le_refl _
theorem tcB_d {T : Nat → Nat} {p : Nat} (h : tcB T p = 1) : ¬ fgF T (tbU T p) = 0 ∧ ¬ fgF T (tbU T p + 1) = 0 ∧ ¬ fgF T (tbU T p + 1 + 1) = 0 ∧ ¬ fgF T (tbU T p + 1 + 1 + 1) = 0 := by
  have z : ¬ (0 : Nat) = 1 := by decide
  unfold tcB at h
  by_cases c1 : nbF T p = 0
  · rw [if_pos c1] at h; exact absurd h z
  rw [if_neg c1] at h
  by_cases c2 : 4 < nbF T p
  · rw [if_pos c2] at h; exact absurd h z
  rw [if_neg c2] at h
  by_cases c3 : ¬ T (nbP T p) = 44
  · rw [if_pos c3] at h; exact absurd h z
  rw [if_neg c3] at h
  by_cases c4 : nbF T (nbP T p + 1) = 0
  · rw [if_pos c4] at h; exact absurd h z
  rw [if_neg c4] at h
  by_cases c5 : 2 < nbF T (nbP T p + 1)
  · rw [if_pos c5] at h; exact absurd h z
  rw [if_neg c5] at h
  by_cases c6 : ¬ T (nbP T (nbP T p + 1)) = 44
  · rw [if_pos c6] at h; exact absurd h z
  rw [if_neg c6] at h
  by_cases d1 : fgF T (tbU T p) = 0
  · rw [if_pos d1] at h; exact absurd h z
  rw [if_neg d1] at h
  by_cases d2 : fgF T (tbU T p + 1) = 0
  · rw [if_pos d2] at h; exact absurd h z
  rw [if_neg d2] at h
  by_cases d3 : fgF T (tbU T p + 1 + 1) = 0
  · rw [if_pos d3] at h; exact absurd h z
  rw [if_neg d3] at h
  by_cases d4 : fgF T (tbU T p + 1 + 1 + 1) = 0
  · rw [if_pos d4] at h; exact absurd h z
  exact ⟨d1, d2, d3, d4⟩
/-- the class's reader and the model's stand alike -/
def rX (X M : mv_Mem) : Prop := iL X ∧ tY M ∧ lx X = ly M ∧ (∃ p, p < 201 ∧ X 10 2 = nI p ∧ M 0 17 = nI p) ∧ rB X M
def sp152 : mv_Sp := fun As sh M Q => ∃ X p, As = [.ref 0] ∧ oM sh ∧ rX X M ∧ M 0 17 = nI p ∧ p < 201 ∧
  (r39 X = 1 → ∀ N p', rdE M N → rX (m39 X) N → N 0 17 = nI p' → p < p' → p' < 201 → Q (some (.int (nI 1))) sh N) ∧ (r39 X = 0 → ∀ N, rdE M N → Q (some (.int (nI 0))) sh N)
section
variable {S : Nat → mv_Sp} {sh : mv_Shp} {P : mv_Post} {N : mv_Mem} {T : Nat → Nat} {e : Nat} {y : Option Value}
theorem end152 (h143 : S 143 = sp143) (p1 : oM sh) (t : tY N) (l : ly N = T) (q : N 0 17 = nI e) (he : e < 1000) (h1 : T e = 59 → P (some (.int (nI 1))) sh (mv_up N 0 17 (nI (e + 1)))) (h0 : ¬ T e = 59 → P (some (.int (nI 0))) sh (mv_up N 0 17 (nI e))) :
    mr152 S P 69 [some (.ref 0), y] [.int (nI 1)] sh N 0 0 := by
  by_cases c : T e = 59
  · have e1 : sgP T 59 e = e + 1 := if_pos c
    simp (disch := first | assumption | omega) only [e152_69, e152_70, e152_71, e152_74, e152_75, e152_77, e152_80, e152_83, e152_84, e152_87, e152_88, q_gv0, q_gvs, q_isI1, q_isA1, q_hs0, q_hsn, q_hsi, q_hsr, q_hss, q_inc1, List.set_cons_zero, List.set_cons_succ, ↓reduceIte, q_ss0, q_ssi, q_ssr, q_nr0, q_nr10, q_nr11, q_tlS, q_tlN, q_cl, q_let, q_lef, q_ltt, q_ltf, q_eqt, q_eqf, q_add, q_mul, Nat.reduceAdd, Nat.reduceLeDiff, Nat.reduceEqDiff, eq_self, Nat.zero_le, Nat.le_refl, not_false_eq_true, not_true_eq_false, true_and, and_true, and_self, if_true, if_false, p1.o, cr143 h143 p1 t l q he, c, e1]
    exact h1 c
  · have e1 : sgP T 59 e = e := if_neg c
    simp (disch := first | assumption | omega) only [e152_69, e152_70, e152_71, e152_74, e152_75, e152_77, e152_80, e152_83, e152_84, e152_87, e152_88, q_gv0, q_gvs, q_isI1, q_isA1, q_hs0, q_hsn, q_hsi, q_hsr, q_hss, q_inc1, List.set_cons_zero, List.set_cons_succ, ↓reduceIte, q_ss0, q_ssi, q_ssr, q_nr0, q_nr10, q_nr11, q_tlS, q_tlN, q_cl, q_let, q_lef, q_ltt, q_ltf, q_eqt, q_eqf, q_add, q_mul, Nat.reduceAdd, Nat.reduceLeDiff, Nat.reduceEqDiff, eq_self, Nat.zero_le, Nat.le_refl, not_false_eq_true, not_true_eq_false, true_and, and_true, and_self, if_true, if_false, p1.o, cr143 h143 p1 t l q he, c, e1]
    exact h0 c
theorem bad152 (h0 : P (some (.int (nI 0))) sh N) : mr152 S P 69 [some (.ref 0), y] [.int (nI 0)] sh N 0 0 := by
  simp (disch := first | assumption | omega) only [e152_69, e152_70, e152_71, e152_87, e152_88, q_gv0, q_gvs, q_isI1, q_isA1, q_hs0, q_hsn, q_hsi, q_hsr, q_hss, q_inc1, List.set_cons_zero, List.set_cons_succ, ↓reduceIte, q_ss0, q_ssi, q_ssr, q_nr0, q_nr10, q_nr11, q_tlS, q_tlN, q_cl, q_let, q_lef, q_ltt, q_ltf, q_eqt, q_eqf, q_add, q_mul, Nat.reduceAdd, Nat.reduceLeDiff, Nat.reduceEqDiff, eq_self, Nat.zero_le, Nat.le_refl, not_false_eq_true, not_true_eq_false, true_and, and_true, and_self, if_true, if_false]
  exact h0
end
theorem nx1 {T : Nat → Nat} {p : Nat} (h : ¬ T p = 0) : nxF T p = p + 1 := if_neg h
theorem ct152 {S : Nat → mv_Sp} (h143 : S 143 = sp143) (h147 : S 147 = sp147) (h149 : S 149 = sp149) (h150 : S 150 = sp150) (h151 : S 151 = sp151) : ∀ As sh M P, sp152 As sh M P → (mv_al0 As).length ≤ 2 ∧ mr152 S P 0 (mv_ent As 2) [] sh M 0 0 := by
  rintro As sh M P ⟨X, p, rfl, p1, hR, hMp, hp, hS, hF⟩
  refine ⟨Nat.le_of_ble_eq_true rfl, ?_⟩
  show mr152 S P 0 [some (.ref 0), none] [] sh M 0 0
  obtain ⟨hI, tM, hl, ⟨p', hp', hXp, hMp'⟩, hB⟩ := hR
  obtain rfl : p' = p := nI_inj (hMp'.symm.trans hMp) (by omega) (by omega)
  have tXX := hI.1
  obtain ⟨T, hT⟩ : ∃ T, lx X = T := ⟨_, rfl⟩
  have hM : ly M = T := hl.symm.trans hT
  have hend : ∀ q, ¬ T q = 0 → q < 96 := by rw [← hT]; exact fun q => lx_end tXX
  have hE : ∀ q, ¬ fgF T q = 0 → q < 200 := by
    rw [← hT]
    intro q hq
    have := fgF_end tXX hq
    omega
  have iL9 := iL_39 hI
  have l9 : lx (m39 X) = T := lx_39.trans hT
  obtain ⟨⟨nT, h6, hX0, hM0, -⟩, ⟨nP, hP6, hX1, hM1, -, nK, hK8, hX2, hM2, -⟩, nL, hL40, hX3, hM3⟩ := id hB
  have fin : ∀ (N : mv_Mem) (e : Nat) (X' : mv_Mem), r39 X = 1 → rdE M N → T e = 59 → p' ≤ e → m39 X = mv_up X' 10 2 (nI (e + 1)) → rB X' N → P (some (.int (nI 1))) sh (mv_up N 0 17 (nI (e + 1))) := by
    intro N e X' hr rN he hpe hm hb
    have e96 := hend e (by rw [he]; decide)
    have rN2 : rdE M (mv_up N 0 17 (nI (e + 1))) := rdE_0 rN (by decide)
    refine hS hr _ (e + 1) rN2 ⟨iL9, rdE_tY rN2 tM, l9.trans ((rdE_ly rN2).trans hM).symm, ⟨e + 1, by omega, by rw [hm]; exact q_upS, q_upS⟩, ?_⟩ q_upS (by omega) (by omega)
    rw [hm]
    exact rB_of hb (fun b h1 h2 => q_upO (by omega)) (fun j hj => q_upN (by omega)) (fun b h1 h2 => q_upO (by omega))
  have r39e : r39 X = if T p' = 116 then r32 (fwM X) else if T p' = 112 then r34 (fwM X) else if T p' = 108 then r35 (fwM X) else if T p' = 100 then r38 (fwM X) else 0 := by
    unfold r39
    rw [hXp, q_cl (by omega), hT]
  have m39e : m39 X = if T p' = 116 then m32 (fwM X) else if T p' = 112 then m34 (fwM X) else if T p' = 108 then m35 (fwM X) else if T p' = 100 then m38 (fwM X) else fwM X := by
    unfold m39
    rw [hXp, q_cl (by omega), hT]
  have fwe : ¬ T p' = 0 → fwM X = mv_up X 10 2 (nI (p' + 1)) := by
    intro h
    unfold fwM
    rw [hXp, q_cl (by omega), hT, nx1 h]
  have fwl : lx (fwM X) = T := by
    unfold fwM
    rw [lx_up (by decide) (by decide)]
    exact hT
  have fw0 : ∀ j, fwM X 11 j = X 11 j := fun j => by unfold fwM; rw [q_upO (by decide)]
  have fwo : ∀ b, 11 ≤ b → fwM X b = X b := fun b hb => by unfold fwM; rw [q_upO (by omega)]
  have r1 : rdE M (mv_up M 0 17 (nI (p' + 1))) := rdE_0 rdE_r (by decide)
  have t1 := rdE_tY r1 tM
  have l1 := (rdE_ly r1).trans hM
  have b1 : rB (fwM X) (mv_up M 0 17 (nI (p' + 1))) := rB_of hB (fun b h1 h2 => fwo b h1) (fun j hj => q_upN (by omega)) (fun b h1 h2 => q_upO (by omega))
  have s0 : ∀ {c : Nat}, ¬ T p' = c → sgP T c p' = p' := fun h => if_neg h
  have idM : mv_up M 0 17 (nI p') = M := up_id hMp
  by_cases c1 : T p' = 116
  · have f1 := fwe (by rw [c1]; decide)
    have s1 : sgP T 116 p' = p' + 1 := if_pos c1
    have fp : fwM X 10 2 = nI (p' + 1) := by rw [f1]; exact q_upS
    have re : r39 X = if tbB T (p' + 1) = 1 ∧ ¬ nT = 6 then 1 else 0 := by
      rw [r39e, if_pos c1]
      unfold r32
      rw [fwl, fp, fw0, hX0, q_cl (by omega), q_cl (by omega)]
    simp (disch := first | assumption | omega) only [e152_0, e152_1, e152_3, e152_6, e152_9, e152_10, q_gv0, q_gvs, q_isI1, q_isA1, q_hs0, q_hsn, q_hsi, q_hsr, q_hss, q_inc1, List.set_cons_zero, List.set_cons_succ, ↓reduceIte, q_ss0, q_ssi, q_ssr, q_nr0, q_nr10, q_nr11, q_tlS, q_tlN, q_cl, q_let, q_lef, q_ltt, q_ltf, q_eqt, q_eqf, q_add, q_mul, Nat.reduceAdd, Nat.reduceLeDiff, Nat.reduceEqDiff, eq_self, Nat.zero_le, Nat.le_refl, not_false_eq_true, not_true_eq_false, true_and, and_true, and_self, if_true, if_false, p1.o, cr143 h143 p1 tM hM hMp (show p' < 1000 by omega), c1, s1]
    refine kal_of ?_
    rw [h147]
    refine ⟨p' + 1, nT, rfl, p1, t1, by omega, q_upS, h6, by rw [q_upN (by decide)]; exact hM0, ?_, ?_⟩
    · rw [l1]
      intro ok n6 N rN fN eN
      rw [q_tlS]
      simp (disch := first | assumption | omega) only [e152_13, q_gv0, q_gvs, q_isI1, q_isA1, q_hs0, q_hsn, q_hsi, q_hsr, q_hss, q_inc1, List.set_cons_zero, List.set_cons_succ, ↓reduceIte, q_ss0, q_ssi, q_ssr, q_nr0, q_nr10, q_nr11, q_tlS, q_tlN, q_cl, q_let, q_lef, q_ltt, q_ltf, q_eqt, q_eqf, q_add, q_mul, Nat.reduceAdd, Nat.reduceLeDiff, Nat.reduceEqDiff, eq_self, Nat.zero_le, Nat.le_refl, not_false_eq_true, not_true_eq_false, true_and, and_true, and_self, if_true, if_false]
      have rMN := rdE_t r1 rN
      have tb := tbB_tc T (p' + 1)
      rw [if_pos ok] at tb
      have ge1 := nbP_ge T (p' + 1)
      have ge2 := nbP_ge T (nbP T (p' + 1) + 1)
      have ue : tbU T (p' + 1) = nbP T (nbP T (p' + 1) + 1) + 1 := rfl
      have u2 : tbU T (p' + 1) < 900 := by
        have := hE _ (tcB_d ok).1
        omega
      refine end152 h143 p1 (rdE_tY rMN tM) ((rdE_ly rMN).trans hM) fN (by omega) (fun h59 => ?_) (fun h59 => ?_)
      · rw [if_pos h59] at tb
        rw [if_pos ⟨tb, n6⟩] at re
        have dd := tcB_d ok
        refine fin N _ (atM (fwM X) 11 nT (nI (nbF T (p' + 1) - 1)) (nI (nbF T (nbP T (p' + 1) + 1) - 1)) (tbR T (p' + 1))) re rMN h59 (by omega) ?_ ?_
        · rw [m39e, if_pos c1]
          unfold m32
          rw [fwl, fp, fw0, hX0, q_cl (by omega), q_cl (by omega), if_pos ⟨tb, n6⟩]
          congr 1
          have z1 : tbP T (p' + 1) = nxF T (tbU T (p' + 1) + 1 + 1 + 1 + 1) := by
            unfold tbB at tb
            unfold tbP
            have zz : ¬ (0 : Nat) = 1 := by decide
            by_cases d1 : nbF T (p' + 1) = 0
            · rw [if_pos d1] at tb; exact absurd tb zz
            rw [if_neg d1] at tb ⊢
            by_cases d2 : 4 < nbF T (p' + 1)
            · rw [if_pos d2] at tb; exact absurd tb zz
            rw [if_neg d2] at tb ⊢
            by_cases d3 : ¬ T (nbP T (p' + 1)) = 44
            · rw [if_pos d3] at tb; exact absurd tb zz
            rw [if_neg d3] at tb ⊢
            by_cases d4 : nbF T (nbP T (p' + 1) + 1) = 0
            · rw [if_pos d4] at tb; exact absurd tb zz
            rw [if_neg d4] at tb ⊢
            by_cases d5 : 2 < nbF T (nbP T (p' + 1) + 1)
            · rw [if_pos d5] at tb; exact absurd tb zz
            rw [if_neg d5] at tb ⊢
            by_cases d6 : ¬ T (nbP T (nbP T (p' + 1) + 1)) = 44
            · rw [if_pos d6] at tb; exact absurd tb zz
            rw [if_neg d6, if_neg dd.1, if_neg dd.2.1, if_neg dd.2.2.1, if_neg dd.2.2.2]
          rw [z1, nx1 (by rw [h59]; decide)]
        · exact rB_tab b1 (by omega) (by rw [q_upN (by decide)]; exact hM0) eN (fun h hh => tbR_dg hh dd.1 dd.2.1 dd.2.2.1 dd.2.2.2)
      · rw [if_neg h59] at tb
        exact hF (by rw [re, if_neg (by rw [tb]; exact fun z => absurd z.1 (by decide))]) _ (rdE_0 rMN (by decide))
    · rw [l1]
      intro bad N rN
      rw [q_tlS]
      simp (disch := first | assumption | omega) only [e152_13, q_gv0, q_gvs, q_isI1, q_isA1, q_hs0, q_hsn, q_hsi, q_hsr, q_hss, q_inc1, List.set_cons_zero, List.set_cons_succ, ↓reduceIte, q_ss0, q_ssi, q_ssr, q_nr0, q_nr10, q_nr11, q_tlS, q_tlN, q_cl, q_let, q_lef, q_ltt, q_ltf, q_eqt, q_eqf, q_add, q_mul, Nat.reduceAdd, Nat.reduceLeDiff, Nat.reduceEqDiff, eq_self, Nat.zero_le, Nat.le_refl, not_false_eq_true, not_true_eq_false, true_and, and_true, and_self, if_true, if_false]
      refine bad152 (hF ?_ _ (rdE_t r1 rN))
      have tb := tbB_tc T (p' + 1)
      rw [re]
      refine if_neg (fun z => ?_)
      rcases bad with bad | bad
      · rw [if_neg bad] at tb
        rw [tb] at z
        exact absurd z.1 (by decide)
      · exact z.2 bad
  by_cases c2 : T p' = 112
  · have f1 := fwe (by rw [c2]; decide)
    have s1 : sgP T 112 p' = p' + 1 := if_pos c2
    have fp : fwM X 10 2 = nI (p' + 1) := by rw [f1]; exact q_upS
    have re : r39 X = if pkC T nT (p' + 1) = 1 ∧ ¬ nP = 6 then 1 else 0 := by
      rw [r39e, if_neg c1, if_pos c2]
      unfold r34
      rw [fwl, fp, fw0, fw0, hX0, hX1, q_cl (by omega), q_cl (by omega), q_cl (by omega)]
    simp (disch := first | assumption | omega) only [e152_0, e152_1, e152_3, e152_6, e152_16, e152_17, e152_19, e152_22, e152_25, e152_26, q_gv0, q_gvs, q_isI1, q_isA1, q_hs0, q_hsn, q_hsi, q_hsr, q_hss, q_inc1, List.set_cons_zero, List.set_cons_succ, ↓reduceIte, q_ss0, q_ssi, q_ssr, q_nr0, q_nr10, q_nr11, q_tlS, q_tlN, q_cl, q_let, q_lef, q_ltt, q_ltf, q_eqt, q_eqf, q_add, q_mul, Nat.reduceAdd, Nat.reduceLeDiff, Nat.reduceEqDiff, eq_self, Nat.zero_le, Nat.le_refl, not_false_eq_true, not_true_eq_false, true_and, and_true, and_self, if_true, if_false, p1.o, cr143 h143 p1 tM hM hMp (show p' < 1000 by omega), c1, c2, s1, s0 c1, idM]
    refine kal_of ?_
    rw [h149]
    have pp := pk_pm T nT h6 hE 6 (300 - (p' + 1)) (p' + 1) 0 (by decide) (by decide) (by omega)
    have pc : pkC T nT (p' + 1) = if (pkF T nT 6 (p' + 1) (nI 0)).1 = 0 then 0 else if (pkF T nT 6 (p' + 1) (nI 0)).2.2 = nI 0 then 0 else if T (pkF T nT 6 (p' + 1) (nI 0)).2.1 = 59 then 1 else 0 := rfl
    have pP : pkP T nT (p' + 1) = if (pkF T nT 6 (p' + 1) (nI 0)).1 = 0 then (pkF T nT 6 (p' + 1) (nI 0)).2.1 else if (pkF T nT 6 (p' + 1) (nI 0)).2.2 = nI 0 then (pkF T nT 6 (p' + 1) (nI 0)).2.1 else nxF T (pkF T nT 6 (p' + 1) (nI 0)).2.1 := rfl
    refine ⟨p' + 1, nT, nP, rfl, p1, t1, by omega, q_upS, h6, by rw [q_upN (by decide)]; exact hM0, hP6, by rw [q_upN (by decide)]; exact hM1, ?_, ?_⟩
    · rw [l1]
      intro ok hne n6 N rN hlt fN eN
      have ge := pmF_ge T nT (300 - (p' + 1)) (p' + 1) (nI 0)
      rw [q_tlS]
      simp (disch := first | assumption | omega) only [e152_29, q_gv0, q_gvs, q_isI1, q_isA1, q_hs0, q_hsn, q_hsi, q_hsr, q_hss, q_inc1, List.set_cons_zero, List.set_cons_succ, ↓reduceIte, q_ss0, q_ssi, q_ssr, q_nr0, q_nr10, q_nr11, q_tlS, q_tlN, q_cl, q_let, q_lef, q_ltt, q_ltf, q_eqt, q_eqf, q_add, q_mul, Nat.reduceAdd, Nat.reduceLeDiff, Nat.reduceEqDiff, eq_self, Nat.zero_le, Nat.le_refl, not_false_eq_true, not_true_eq_false, true_and, and_true, and_self, if_true, if_false]
      have rMN := rdE_t r1 rN
      refine end152 h143 p1 (rdE_tY rMN tM) ((rdE_ly rMN).trans hM) fN (by omega) (fun h59 => ?_) (fun h59 => ?_)
      · obtain ⟨q1, q2⟩ := pp (Or.inr ⟨ok, h59⟩)
        rw [q1] at pc pP
        generalize pmF T nT (300 - (p' + 1)) (p' + 1) (nI 0) = D at *
        obtain ⟨d1, d2, d3⟩ := D
        dsimp only at *
        subst ok
        rw [if_neg (by decide), if_neg hne, if_pos h59] at pc
        rw [if_neg (by decide), if_neg hne, nx1 (by rw [h59]; decide)] at pP
        rw [if_pos ⟨pc, n6⟩] at re
        refine fin N _ (mv_up (mv_up (fwM X) 16 nP d3) 11 1 (nI (nP + 1))) re rMN h59 (by omega) ?_ ?_
        · rw [m39e, if_neg c1, if_pos c2]
          unfold m34
          rw [fwl, fp, fw0, fw0, hX0, hX1, q_cl (by omega), q_cl (by omega), q_cl (by omega), if_pos ⟨pc, n6⟩, q1, pP]
        · obtain ⟨⟨nT', h6', hX0', hM0', ha, hb⟩, ⟨nP', hP6', hX1', hM1', hpk, nK', hK8', hX2', hM2', hd⟩, nL', hL', hX3', hM3'⟩ := b1
          obtain ⟨e23, e19, e25, e26, e13, e13', e10, e11, e12, e14⟩ := eN
          obtain rfl : nP' = nP := nI_inj (hX1'.symm.trans ((fw0 1).trans hX1)) (by omega) (by omega)
          refine ⟨⟨nT', h6', ?_, ?_, ?_, ?_⟩, ⟨nP' + 1, by omega, q_upS, e23, fun t ht => ?_, nK', hK8', ?_, ?_, fun k hk => ?_⟩, nL', hL', ?_, ?_⟩
          · rw [q_upN (by decide), q_upO (by decide)]; exact hX0'
          · rw [e19]; exact hM0'
          · rw [q_upO (by decide), q_upO (by decide), q_upO (by decide), q_upO (by decide), e10, e11]; exact ha
          · rw [q_upO (by decide), q_upO (by decide), q_upO (by decide), q_upO (by decide), e12]; exact hb
          · rw [q_upO (by decide)]
            by_cases z : t = nP'
            · subst z; rw [q_upS, e13]
            · rw [q_upN (fun y => z y.2), e13' t z]; exact hpk t (by omega)
          · rw [q_upN (by decide), q_upO (by decide)]; exact hX2'
          · rw [e26]; exact hM2'
          · rw [q_upO (by decide), q_upO (by decide), e14]
            obtain ⟨g1, q, w, g2, g3, g4⟩ := hd k hk
            exact ⟨g1, q, w, by omega, g3, g4⟩
          · rw [q_upN (by decide), q_upO (by decide)]; exact hX3'
          · rw [e25]; exact hM3'
      · refine hF ?_ _ (rdE_0 rMN (by decide))
        rw [re]
        refine if_neg (fun z => ?_)
        have z1 := z.1
        rw [pc] at z1
        split at z1
        · exact absurd z1 (by decide)
        split at z1
        · exact absurd z1 (by decide)
        split at z1
        · rename_i g1 g2 g3
          have q := pp (Or.inl ⟨by rcases pkF_01 T nT 6 (p' + 1) (nI 0) with y | y; exact absurd y g1; exact y, g3⟩)
          rw [q.1] at g3
          exact h59 g3
        · exact absurd z1 (by decide)
    · rw [l1]
      intro bad N rN
      rw [q_tlS]
      simp (disch := first | assumption | omega) only [e152_29, q_gv0, q_gvs, q_isI1, q_isA1, q_hs0, q_hsn, q_hsi, q_hsr, q_hss, q_inc1, List.set_cons_zero, List.set_cons_succ, ↓reduceIte, q_ss0, q_ssi, q_ssr, q_nr0, q_nr10, q_nr11, q_tlS, q_tlN, q_cl, q_let, q_lef, q_ltt, q_ltf, q_eqt, q_eqf, q_add, q_mul, Nat.reduceAdd, Nat.reduceLeDiff, Nat.reduceEqDiff, eq_self, Nat.zero_le, Nat.le_refl, not_false_eq_true, not_true_eq_false, true_and, and_true, and_self, if_true, if_false]
      refine bad152 (hF ?_ _ (rdE_t r1 rN))
      rw [re]
      refine if_neg (fun z => ?_)
      have z1 := z.1
      rw [pc] at z1
      split at z1
      · exact absurd z1 (by decide)
      split at z1
      · exact absurd z1 (by decide)
      split at z1
      · rename_i g1 g2 g3
        have q := pp (Or.inl ⟨by rcases pkF_01 T nT 6 (p' + 1) (nI 0) with y | y; exact absurd y g1; exact y, g3⟩)
        rcases bad with bad | bad | bad
        · exact bad q.2
        · rw [q.1] at g2; exact g2 bad
        · exact z.2 bad
      · exact absurd z1 (by decide)
  by_cases c3 : T p' = 108
  · have f1 := fwe (by rw [c3]; decide)
    have s1 : sgP T 108 p' = p' + 1 := if_pos c3
    have fp : fwM X 10 2 = nI (p' + 1) := by rw [f1]; exact q_upS
    have re : r39 X = lmB T (p' + 1) := by
      rw [r39e, if_neg c1, if_neg c2, if_pos c3]
      unfold r35
      rw [fwl, fp, q_cl (by omega)]
    simp (disch := first | assumption | omega) only [e152_0, e152_1, e152_3, e152_6, e152_16, e152_17, e152_19, e152_22, e152_32, e152_33, e152_35, e152_38, e152_41, e152_42, q_gv0, q_gvs, q_isI1, q_isA1, q_hs0, q_hsn, q_hsi, q_hsr, q_hss, q_inc1, List.set_cons_zero, List.set_cons_succ, ↓reduceIte, q_ss0, q_ssi, q_ssr, q_nr0, q_nr10, q_nr11, q_tlS, q_tlN, q_cl, q_let, q_lef, q_ltt, q_ltf, q_eqt, q_eqf, q_add, q_mul, Nat.reduceAdd, Nat.reduceLeDiff, Nat.reduceEqDiff, eq_self, Nat.zero_le, Nat.le_refl, not_false_eq_true, not_true_eq_false, true_and, and_true, and_self, if_true, if_false, p1.o, cr143 h143 p1 tM hM hMp (show p' < 1000 by omega), c1, c2, c3, s1, s0 c1, s0 c2, idM]
    refine kal_of ?_
    rw [h150]
    refine ⟨p' + 1, rfl, p1, t1, by omega, q_upS, ?_⟩
    rw [l1]
    show mr152 S P 45 [some (.ref 0), none] ((some (Value.int (nI (if nbF T (p' + 1) < 2 then 0 else if 41 < nbF T (p' + 1) then 0 else 1)))).toList ++ []) sh (mv_up (nuM (mv_up M 0 17 (nI (p' + 1)))) 0 25 (nI (nbF T (p' + 1) - 1))) 0 0
    rw [q_tlS]
    have e17 : mv_up (nuM (mv_up M 0 17 (nI (p' + 1)))) 0 25 (nI (nbF T (p' + 1) - 1)) 0 17 = nI (nbP T (p' + 1)) := by
      unfold nuM
      rw [q_upN (by decide), q_upS, q_upS, q_cl (by omega), l1]
    have rMN : rdE M (mv_up (nuM (mv_up M 0 17 (nI (p' + 1)))) 0 25 (nI (nbF T (p' + 1) - 1))) := by
      unfold nuM
      exact rdE_0 (rdE_0 (rdE_0 r1 (by decide)) (by decide)) (by decide)
    have lb : lmB T (p' + 1) = if nbF T (p' + 1) < 2 then 0 else if 41 < nbF T (p' + 1) then 0 else if T (nbP T (p' + 1)) = 59 then 1 else 0 := rfl
    have lp : lmP T (p' + 1) = if nbF T (p' + 1) < 2 then nbP T (p' + 1) else if 41 < nbF T (p' + 1) then nbP T (p' + 1) else nxF T (nbP T (p' + 1)) := rfl
    have e25 : mv_up (nuM (mv_up M 0 17 (nI (p' + 1)))) 0 25 (nI (nbF T (p' + 1) - 1)) 0 25 = nI (nbF T (p' + 1) - 1) := q_upS
    have eo : ∀ j, j = 19 ∨ j = 23 ∨ j = 26 → mv_up (nuM (mv_up M 0 17 (nI (p' + 1)))) 0 25 (nI (nbF T (p' + 1) - 1)) 0 j = mv_up M 0 17 (nI (p' + 1)) 0 j := by
      intro j hj
      unfold nuM
      rw [q_upN (by omega), q_upN (by omega), q_upN (by omega)]
    have eq : ∀ b, ¬ b = 0 → mv_up (nuM (mv_up M 0 17 (nI (p' + 1)))) 0 25 (nI (nbF T (p' + 1) - 1)) b = mv_up M 0 17 (nI (p' + 1)) b := by
      intro b hb
      unfold nuM
      rw [q_upO hb, q_upO hb, q_upO hb]
    generalize mv_up (nuM (mv_up M 0 17 (nI (p' + 1)))) 0 25 (nI (nbF T (p' + 1) - 1)) = N at *
    have bp : nbP T (p' + 1) ≤ 203 := by
      have := (nbY_P tM (p' + 1)).1
      rw [hM] at this
      omega
    by_cases g1 : nbF T (p' + 1) < 2
    · rw [if_pos g1] at lb ⊢
      simp (disch := first | assumption | omega) only [e152_45, q_gv0, q_gvs, q_isI1, q_isA1, q_hs0, q_hsn, q_hsi, q_hsr, q_hss, q_inc1, List.set_cons_zero, List.set_cons_succ, ↓reduceIte, q_ss0, q_ssi, q_ssr, q_nr0, q_nr10, q_nr11, q_tlS, q_tlN, q_cl, q_let, q_lef, q_ltt, q_ltf, q_eqt, q_eqf, q_add, q_mul, Nat.reduceAdd, Nat.reduceLeDiff, Nat.reduceEqDiff, eq_self, Nat.zero_le, Nat.le_refl, not_false_eq_true, not_true_eq_false, true_and, and_true, and_self, if_true, if_false]
      exact bad152 (hF (re.trans lb) _ rMN)
    by_cases g2 : 41 < nbF T (p' + 1)
    · rw [if_neg g1, if_pos g2] at lb ⊢
      simp (disch := first | assumption | omega) only [e152_45, q_gv0, q_gvs, q_isI1, q_isA1, q_hs0, q_hsn, q_hsi, q_hsr, q_hss, q_inc1, List.set_cons_zero, List.set_cons_succ, ↓reduceIte, q_ss0, q_ssi, q_ssr, q_nr0, q_nr10, q_nr11, q_tlS, q_tlN, q_cl, q_let, q_lef, q_ltt, q_ltf, q_eqt, q_eqf, q_add, q_mul, Nat.reduceAdd, Nat.reduceLeDiff, Nat.reduceEqDiff, eq_self, Nat.zero_le, Nat.le_refl, not_false_eq_true, not_true_eq_false, true_and, and_true, and_self, if_true, if_false]
      exact bad152 (hF (re.trans lb) _ rMN)
    rw [if_neg g1, if_neg g2] at lb lp ⊢
    simp (disch := first | assumption | omega) only [e152_45, q_gv0, q_gvs, q_isI1, q_isA1, q_hs0, q_hsn, q_hsi, q_hsr, q_hss, q_inc1, List.set_cons_zero, List.set_cons_succ, ↓reduceIte, q_ss0, q_ssi, q_ssr, q_nr0, q_nr10, q_nr11, q_tlS, q_tlN, q_cl, q_let, q_lef, q_ltt, q_ltf, q_eqt, q_eqf, q_add, q_mul, Nat.reduceAdd, Nat.reduceLeDiff, Nat.reduceEqDiff, eq_self, Nat.zero_le, Nat.le_refl, not_false_eq_true, not_true_eq_false, true_and, and_true, and_self, if_true, if_false]
    have ge := nbP_ge T (p' + 1)
    refine end152 h143 p1 (rdE_tY rMN tM) ((rdE_ly rMN).trans hM) e17 (by omega) (fun h59 => ?_) (fun h59 => ?_)
    · rw [if_pos h59] at lb
      refine fin N _ (mv_up (fwM X) 11 3 (nI (nbF T (p' + 1) - 1))) (re.trans lb) rMN h59 (by omega) ?_ ?_
      · rw [m39e, if_neg c1, if_neg c2, if_pos c3]
        unfold m35
        rw [fwl, fp, q_cl (by omega), if_pos lb, lp, nx1 (by rw [h59]; decide)]
      · obtain ⟨⟨nT', h6', hX0', hM0', ha, hb⟩, ⟨nP', hP6', hX1', hM1', hpk, nK', hK8', hX2', hM2', hd⟩, nL', hL', hX3', hM3'⟩ := b1
        refine ⟨⟨nT', h6', ?_, ?_, ?_, ?_⟩, ⟨nP', hP6', ?_, ?_, ?_, nK', hK8', ?_, ?_, ?_⟩, nbF T (p' + 1) - 1, by omega, q_upS, e25⟩
        · rw [q_upN (by decide)]; exact hX0'
        · rw [eo 19 (by decide)]; exact hM0'
        · rw [q_upO (by decide), q_upO (by decide), eq 10 (by decide), eq 11 (by decide)]; exact ha
        · rw [q_upO (by decide), q_upO (by decide), eq 12 (by decide)]; exact hb
        · rw [q_upN (by decide)]; exact hX1'
        · rw [eo 23 (by decide)]; exact hM1'
        · rw [q_upO (by decide), eq 13 (by decide)]; exact hpk
        · rw [q_upN (by decide)]; exact hX2'
        · rw [eo 26 (by decide)]; exact hM2'
        · rw [q_upO (by decide), eq 14 (by decide)]; exact hd
    · rw [if_neg h59] at lb
      exact hF (re.trans lb) _ (rdE_0 rMN (by decide))
  by_cases c4 : T p' = 100
  · have f1 := fwe (by rw [c4]; decide)
    have s1 : sgP T 100 p' = p' + 1 := if_pos c4
    have fp : fwM X 10 2 = nI (p' + 1) := by rw [f1]; exact q_upS
    have dr : drR (fwM X) = drF T nP 8 0 (p' + 1) (mv_up (fwM X) 11 2 (nI 0)) := by
      unfold drR
      rw [fwl, fp, fw0, hX1, q_cl (by omega), q_cl (by omega)]
    have re : r39 X = if (drF T nP 8 0 (p' + 1) (mv_up (fwM X) 11 2 (nI 0))).1 = 0 then 0 else if (drF T nP 8 0 (p' + 1) (mv_up (fwM X) 11 2 (nI 0))).2.2.1 = 0 then 0 else if T (drF T nP 8 0 (p' + 1) (mv_up (fwM X) 11 2 (nI 0))).2.1 = 59 then 1 else 0 := by
      rw [r39e, if_neg c1, if_neg c2, if_neg c3, if_pos c4]
      unfold r38
      rw [dr, fwl]
    have me : m39 X = mv_up (drF T nP 8 0 (p' + 1) (mv_up (fwM X) 11 2 (nI 0))).2.2.2 10 2 (nI (if (drF T nP 8 0 (p' + 1) (mv_up (fwM X) 11 2 (nI 0))).1 = 0 then (drF T nP 8 0 (p' + 1) (mv_up (fwM X) 11 2 (nI 0))).2.1 else if (drF T nP 8 0 (p' + 1) (mv_up (fwM X) 11 2 (nI 0))).2.2.1 = 0 then (drF T nP 8 0 (p' + 1) (mv_up (fwM X) 11 2 (nI 0))).2.1 else nxF T (drF T nP 8 0 (p' + 1) (mv_up (fwM X) 11 2 (nI 0))).2.1)) := by
      rw [m39e, if_neg c1, if_neg c2, if_neg c3, if_pos c4]
      unfold m38 p38
      rw [dr, fwl]
    have pp := dr_dm T nP hE 8 (300 - (p' + 1)) 0 (p' + 1) (mv_up (fwM X) 11 2 (nI 0)) (mv_up M 0 17 (nI (p' + 1)) 14) rfl (by omega) q_upS (fun j hj => absurd hj (by omega))
    have dout : ∀ b, ¬ b = 17 → ¬ b = 11 → (drF T nP 8 0 (p' + 1) (mv_up (fwM X) 11 2 (nI 0))).2.2.2 b = fwM X b := fun b h1 h2 => by rw [drF_out h1 h2, q_upO h2]
    have d11 : ∀ j, ¬ j = 2 → (drF T nP 8 0 (p' + 1) (mv_up (fwM X) 11 2 (nI 0))).2.2.2 11 j = fwM X 11 j := fun j h => by rw [drF_11 h, q_upN (by omega)]
    have d01 := drF_01 T nP 8 0 (p' + 1) (mv_up (fwM X) 11 2 (nI 0))
    simp (disch := first | assumption | omega) only [e152_0, e152_1, e152_3, e152_6, e152_16, e152_17, e152_19, e152_22, e152_32, e152_33, e152_35, e152_38, e152_48, e152_49, e152_51, e152_54, e152_57, e152_58, q_gv0, q_gvs, q_isI1, q_isA1, q_hs0, q_hsn, q_hsi, q_hsr, q_hss, q_inc1, List.set_cons_zero, List.set_cons_succ, ↓reduceIte, q_ss0, q_ssi, q_ssr, q_nr0, q_nr10, q_nr11, q_tlS, q_tlN, q_cl, q_let, q_lef, q_ltt, q_ltf, q_eqt, q_eqf, q_add, q_mul, Nat.reduceAdd, Nat.reduceLeDiff, Nat.reduceEqDiff, eq_self, Nat.zero_le, Nat.le_refl, not_false_eq_true, not_true_eq_false, true_and, and_true, and_self, if_true, if_false, p1.o, cr143 h143 p1 tM hM hMp (show p' < 1000 by omega), c1, c2, c3, c4, s1, s0 c1, s0 c2, s0 c3, idM]
    refine kal_of ?_
    rw [h151]
    generalize drF T nP 8 0 (p' + 1) (mv_up (fwM X) 11 2 (nI 0)) = A at *
    obtain ⟨a1, a2, a3, a4⟩ := A
    refine ⟨p' + 1, nP, rfl, p1, t1, by omega, q_upS, hP6, by rw [q_upN (by decide)]; exact hM1, ?_, ?_⟩
    · rw [l1]
      intro ok hne N rN hlt hk8 fN eN
      have ge := dmF_ge T nP (300 - (p' + 1)) 0 (p' + 1) (mv_up M 0 17 (nI (p' + 1)) 14)
      rw [q_tlS]
      simp (disch := first | assumption | omega) only [e152_61, e152_64, e152_65, q_gv0, q_gvs, q_isI1, q_isA1, q_hs0, q_hsn, q_hsi, q_hsr, q_hss, q_inc1, List.set_cons_zero, List.set_cons_succ, ↓reduceIte, q_ss0, q_ssi, q_ssr, q_nr0, q_nr10, q_nr11, q_tlS, q_tlN, q_cl, q_let, q_lef, q_ltt, q_ltf, q_eqt, q_eqf, q_add, q_mul, Nat.reduceAdd, Nat.reduceLeDiff, Nat.reduceEqDiff, eq_self, Nat.zero_le, Nat.le_refl, not_false_eq_true, not_true_eq_false, true_and, and_true, and_self, if_true, if_false]
      have rMN := rdE_t r1 rN
      refine end152 h143 p1 (rdE_tY rMN tM) ((rdE_ly rMN).trans hM) fN (by omega) (fun h59 => ?_) (fun h59 => ?_)
      · obtain ⟨q1, q2, q3, q4, q5, q6, q7⟩ := pp (Or.inr ⟨ok, h59⟩)
        generalize dmF T nP (300 - (p' + 1)) 0 (p' + 1) (mv_up M 0 17 (nI (p' + 1)) 14) = D at *
        obtain ⟨d1, d2, d3, d4⟩ := D
        dsimp only at *
        subst q1 q2 q3 q4
        rw [if_neg (by decide), if_neg hne, if_pos h59] at re
        rw [if_neg (by decide), if_neg hne, nx1 (by rw [h59]; decide)] at me
        refine fin N _ a4 re rMN h59 (by omega) me ?_
        obtain ⟨⟨nT', h6', hX0', hM0', ha, hb⟩, ⟨nP', hP6', hX1', hM1', hpk, nK', hK8', hX2', hM2', hd⟩, nL', hL', hX3', hM3'⟩ := b1
        obtain ⟨e26, e19, e23, e25, e14, e10, e11, e12, e13⟩ := eN
        obtain rfl : nP' = nP := nI_inj (hX1'.symm.trans ((fw0 1).trans hX1)) (by omega) (by omega)
        refine ⟨⟨nT', h6', ?_, ?_, ?_, ?_⟩, ⟨nP', hP6', ?_, ?_, ?_, a3, q5, q6, e26, fun k hk => ?_⟩, nL', hL', ?_, ?_⟩
        · rw [d11 0 (by decide)]; exact hX0'
        · rw [e19]; exact hM0'
        · rw [dout 12 (by decide) (by decide), dout 13 (by decide) (by decide), e10, e11]; exact ha
        · rw [dout 14 (by decide) (by decide), dout 15 (by decide) (by decide), e12]; exact hb
        · rw [d11 1 (by decide)]; exact hX1'
        · rw [e23]; exact hM1'
        · rw [dout 16 (by decide) (by decide), e13]; exact hpk
        · rw [e14]
          exact q7 k hk
        · rw [d11 3 (by decide)]; exact hX3'
        · rw [e25]; exact hM3'
      · refine hF ?_ _ (rdE_0 rMN (by decide))
        rw [re]
        by_cases g1 : a1 = 0
        · exact if_pos g1
        rw [if_neg g1]
        by_cases g2 : a3 = 0
        · exact if_pos g2
        rw [if_neg g2]
        refine if_neg (fun g3 => ?_)
        have q := pp (Or.inl ⟨by rcases d01 with y | y; exact absurd y g1; exact y, g3⟩)
        have q3 := q.2.2.1
        dsimp only at q3
        rw [q3] at g3
        exact h59 g3
    · rw [l1]
      intro bad N rN
      rw [q_tlS]
      simp (disch := first | assumption | omega) only [e152_61, e152_64, e152_65, e152_68, q_gv0, q_gvs, q_isI1, q_isA1, q_hs0, q_hsn, q_hsi, q_hsr, q_hss, q_inc1, List.set_cons_zero, List.set_cons_succ, ↓reduceIte, q_ss0, q_ssi, q_ssr, q_nr0, q_nr10, q_nr11, q_tlS, q_tlN, q_cl, q_let, q_lef, q_ltt, q_ltf, q_eqt, q_eqf, q_add, q_mul, Nat.reduceAdd, Nat.reduceLeDiff, Nat.reduceEqDiff, eq_self, Nat.zero_le, Nat.le_refl, not_false_eq_true, not_true_eq_false, true_and, and_true, and_self, if_true, if_false]
      refine bad152 (hF ?_ _ (rdE_t r1 rN))
      rw [re]
      dsimp only
      by_cases g1 : a1 = 0
      · exact if_pos g1
      rw [if_neg g1]
      by_cases g2 : a3 = 0
      · exact if_pos g2
      rw [if_neg g2]
      refine if_neg (fun g3 => ?_)
      have q := pp (Or.inl ⟨by rcases d01 with y | y; exact absurd y g1; exact y, g3⟩)
      rcases bad with bad | bad
      · exact bad q.2.1
      · have q4 := q.2.2.2.1
        dsimp only at q4
        rw [bad] at q4
        exact g2 q4
  simp (disch := first | assumption | omega) only [e152_0, e152_1, e152_3, e152_6, e152_16, e152_17, e152_19, e152_22, e152_32, e152_33, e152_35, e152_38, e152_48, e152_49, e152_51, e152_54, e152_68, q_gv0, q_gvs, q_isI1, q_isA1, q_hs0, q_hsn, q_hsi, q_hsr, q_hss, q_inc1, List.set_cons_zero, List.set_cons_succ, ↓reduceIte, q_ss0, q_ssi, q_ssr, q_nr0, q_nr10, q_nr11, q_tlS, q_tlN, q_cl, q_let, q_lef, q_ltt, q_ltf, q_eqt, q_eqf, q_add, q_mul, Nat.reduceAdd, Nat.reduceLeDiff, Nat.reduceEqDiff, eq_self, Nat.zero_le, Nat.le_refl, not_false_eq_true, not_true_eq_false, true_and, and_true, and_self, if_true, if_false, p1.o, cr143 h143 p1 tM hM hMp (show p' < 1000 by omega), c1, c2, c3, c4, s0 c1, s0 c2, s0 c3, s0 c4, idM]
  refine bad152 (hF ?_ _ rdE_r)
  rw [r39e, if_neg c1, if_neg c2, if_neg c3, if_neg c4]
