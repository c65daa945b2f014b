/-! the loom's numbers kept -/
theorem gU {M : mv_Mem} {a b j : Nat} {y : Int32} (h : gL M a) (h0 : b = a → (j = 0 → ∃ n, n ≤ 6 ∧ y = nI n) ∧ (j = 1 → ∃ n, n ≤ 6 ∧ y = nI n) ∧ (j = 2 → ∃ n, n ≤ 8 ∧ y = nI n) ∧ (j = 3 → ∃ n, n ≤ 40 ∧ y = nI n))
    (h1 : b = a + 1 → ∃ k, k < 4 ∧ y = nI k) (h2 : b = a + 2 → ∃ k, k < 2 ∧ y = nI k) (h3 : b = a + 3 → ∃ k, k < 10 ∧ y = nI k) (h4 : b = a + 4 → ∃ k, k < 4 ∧ y = nI k)
    (h5 : b = a + 5 → ∃ k, k < 64 ∧ y = nI k) (h6 : b = a + 6 → ∃ q w, q < 6 ∧ w < 2 ∧ y = nI (10 * q + w)) : gL (mv_up M b j y) a := by
  obtain ⟨g0, g1, g2, g3, g4, g5, g6, g7, g8, g9⟩ := h
  have k : ∀ {Q : Int32 → Prop} {d t : Nat}, (b = d → j = t → Q y) → Q (M d t) → Q (mv_up M b j y d t) := by
    intro Q d t x y
    by_cases z : d = b ∧ t = j
    · obtain ⟨rfl, rfl⟩ := z
      rw [q_upS]; exact x rfl rfl
    · rw [q_upN z]; exact y
  refine ⟨?_, ?_, ?_, ?_, ?_, ?_, ?_, ?_, ?_, ?_⟩
  · exact k (Q := fun x => ∃ n, n ≤ 6 ∧ x = nI n) (fun z => (h0 z).1) g0
  · exact k (Q := fun x => ∃ n, n ≤ 6 ∧ x = nI n) (fun z => (h0 z).2.1) g1
  · exact k (Q := fun x => ∃ n, n ≤ 8 ∧ x = nI n) (fun z => (h0 z).2.2.1) g2
  · exact k (Q := fun x => ∃ n, n ≤ 40 ∧ x = nI n) (fun z => (h0 z).2.2.2) g3
  · exact fun t ht => k (Q := fun x => ∃ n, n < 4 ∧ x = nI n) (fun z _ => h1 z) (g4 t ht)
  · exact fun t ht => k (Q := fun x => ∃ n, n < 2 ∧ x = nI n) (fun z _ => h2 z) (g5 t ht)
  · exact fun t ht => k (Q := fun x => ∃ n, n < 10 ∧ x = nI n) (fun z _ => h3 z) (g6 t ht)
  · exact fun t ht => k (Q := fun x => ∃ n, n < 4 ∧ x = nI n) (fun z _ => h4 z) (g7 t ht)
  · exact fun t ht => k (Q := fun x => ∃ n, n < 64 ∧ x = nI n) (fun z _ => h5 z) (g8 t ht)
  · exact fun t ht => k (Q := fun x => ∃ q w, q < 6 ∧ w < 2 ∧ x = nI (10 * q + w)) (fun z _ => h6 z) (g9 t ht)
theorem gU10 {M : mv_Mem} {j : Nat} {y : Int32} (h : gL M 11) : gL (mv_up M 10 j y) 11 :=
  gU h (fun z => absurd z (by decide)) (fun z => absurd z (by decide)) (fun z => absurd z (by decide)) (fun z => absurd z (by decide)) (fun z => absurd z (by decide)) (fun z => absurd z (by decide)) (fun z => absurd z (by decide))
theorem gU_h {M : mv_Mem} {a j : Nat} {y : Int32} (h : gL M a) (h0 : (j = 0 → ∃ n, n ≤ 6 ∧ y = nI n) ∧ (j = 1 → ∃ n, n ≤ 6 ∧ y = nI n) ∧ (j = 2 → ∃ n, n ≤ 8 ∧ y = nI n) ∧ (j = 3 → ∃ n, n ≤ 40 ∧ y = nI n)) : gL (mv_up M a j y) a :=
  gU h (fun _ => h0) (fun z => by omega) (fun z => by omega) (fun z => by omega) (fun z => by omega) (fun z => by omega) (fun z => by omega)
theorem gU_1 {M : mv_Mem} {a j : Nat} {y : Int32} (h : gL M a) (h0 : ∃ k, k < 4 ∧ y = nI k) : gL (mv_up M (a + 1) j y) a :=
  gU h (fun z => by omega) (fun _ => h0) (fun z => by omega) (fun z => by omega) (fun z => by omega) (fun z => by omega) (fun z => by omega)
theorem gU_2 {M : mv_Mem} {a j : Nat} {y : Int32} (h : gL M a) (h0 : ∃ k, k < 2 ∧ y = nI k) : gL (mv_up M (a + 2) j y) a :=
  gU h (fun z => by omega) (fun z => by omega) (fun _ => h0) (fun z => by omega) (fun z => by omega) (fun z => by omega) (fun z => by omega)
theorem gU_3 {M : mv_Mem} {a j : Nat} {y : Int32} (h : gL M a) (h0 : ∃ k, k < 10 ∧ y = nI k) : gL (mv_up M (a + 3) j y) a :=
  gU h (fun z => by omega) (fun z => by omega) (fun z => by omega) (fun _ => h0) (fun z => by omega) (fun z => by omega) (fun z => by omega)
theorem gU_4 {M : mv_Mem} {a j : Nat} {y : Int32} (h : gL M a) (h0 : ∃ k, k < 4 ∧ y = nI k) : gL (mv_up M (a + 4) j y) a :=
  gU h (fun z => by omega) (fun z => by omega) (fun z => by omega) (fun z => by omega) (fun _ => h0) (fun z => by omega) (fun z => by omega)
theorem gU_5 {M : mv_Mem} {a j : Nat} {y : Int32} (h : gL M a) (h0 : ∃ k, k < 64 ∧ y = nI k) : gL (mv_up M (a + 5) j y) a :=
  gU h (fun z => by omega) (fun z => by omega) (fun z => by omega) (fun z => by omega) (fun z => by omega) (fun _ => h0) (fun z => by omega)
theorem gU_6 {M : mv_Mem} {a j : Nat} {y : Int32} (h : gL M a) (h0 : ∃ q w, q < 6 ∧ w < 2 ∧ y = nI (10 * q + w)) : gL (mv_up M (a + 6) j y) a :=
  gU h (fun z => by omega) (fun z => by omega) (fun z => by omega) (fun z => by omega) (fun z => by omega) (fun z => by omega) (fun _ => h0)
theorem gL_atM {M : mv_Mem} {a n : Nat} {kd s R : Nat} (h : gL M a) (hn : n < 6) (hk : kd < 4) (hs : s < 2) : gL (atM M a n (nI kd) (nI s) R) a := by
  unfold atM thM
  refine gU_h (gU_4 (gU_4 (gU_4 (gU_4 (gU_3 (gU_3 (gU_3 (gU_3 (gU_2 (gU_1 h ⟨kd, hk, rfl⟩) ⟨s, hs, rfl⟩) ⟨_, Nat.mod_lt _ (by decide), rfl⟩) ⟨_, Nat.mod_lt _ (by decide), rfl⟩) ⟨_, Nat.mod_lt _ (by decide), rfl⟩) ⟨_, Nat.mod_lt _ (by decide), rfl⟩)
    ⟨_, Nat.lt_of_le_of_lt (faF_le _ 0 0) (by decide), rfl⟩) ⟨_, Nat.lt_of_le_of_lt (faF_le _ 1 1) (by decide), rfl⟩) ⟨_, Nat.lt_of_le_of_lt (faF_le _ 2 2) (by decide), rfl⟩) ⟨_, Nat.lt_of_le_of_lt (faF_le _ 3 3) (by decide), rfl⟩)
    ⟨fun _ => ⟨n + 1, by omega, rfl⟩, fun z => absurd z (by decide), fun z => absurd z (by decide), fun z => absurd z (by decide)⟩
theorem or_set : ∀ (k : Fin 64) (b : Fin 6), nI k.1 ||| (nI 1 <<< (nI b.1 &&& 31)) = nI (k.1 ||| 1 <<< b.1) ∧ k.1 ||| 1 <<< b.1 < 64 := by decide +kernel
theorem pkF_set (T : Nat → Nat) (nT : Nat) (hT : nT ≤ 6) : ∀ n p x, (∃ k, k < 64 ∧ x = nI k) → ∃ k, k < 64 ∧ (pkF T nT n p x).2.2 = nI k
  | 0, p, x, h => h
  | n + 1, p, x, h => by
    unfold pkF
    split
    · exact h
    split
    · exact h
    split
    · exact h
    split
    · exact h
    · rename_i c2 c3 c4
      obtain ⟨k, hk, rfl⟩ := h
      have := or_set ⟨k, hk⟩ ⟨fgF T p - 1, by omega⟩
      exact pkF_set T nT hT n _ _ ⟨_, this.2, this.1⟩
theorem drF_gL (T : Nat → Nat) (nP : Nat) (hP : nP ≤ 6) : ∀ n k p (M : mv_Mem), k + n = 8 → tX M → gL M 11 → (∃ p, p < 201 ∧ M 10 2 = nI p) → tX (drF T nP n k p M).2.2.2 ∧ gL (drF T nP n k p M).2.2.2 11
  | 0, k, p, M, _, h1, h2, _ => ⟨h1, h2⟩
  | n + 1, k, p, M, hk, h1, h2, h3 => by
    unfold drF
    split
    · exact ⟨h1, h2⟩
    split
    · exact ⟨h1, h2⟩
    split
    · exact ⟨h1, h2⟩
    rename_i c2 c3
    split
    · exact drF_gL T nP hP n _ _ _ (by omega) (tX_up (tX_up h1 (by decide) (by decide)) (by decide) (by decide)) (gU_h (gU_6 (a := 11) h2 ⟨_, 0, by omega, by decide, rfl⟩) ⟨fun z => absurd z (by decide), fun z => absurd z (by decide), fun _ => ⟨k + 1, by omega, rfl⟩, fun z => absurd z (by decide)⟩) (up_ex (by decide) (up_ex (by decide) h3))
    split
    · exact drF_gL T nP hP n _ _ _ (by omega) (tX_up (tX_up h1 (by decide) (by decide)) (by decide) (by decide)) (gU_h (gU_6 (a := 11) h2 ⟨_, 1, by omega, by decide, rfl⟩) ⟨fun z => absurd z (by decide), fun z => absurd z (by decide), fun _ => ⟨k + 1, by omega, rfl⟩, fun z => absurd z (by decide)⟩) (up_ex (by decide) (up_ex (by decide) h3))
    · exact ⟨h1, h2⟩
/-! the place kept -/
theorem lmP_lt {M : mv_Mem} (h : tX M) {p : Nat} (hp : p < 201) : lmP (lx M) p < 201 := by
  have b := nbP_lt h hp
  unfold lmP
  split
  · exact b
  split
  · exact b
  · exact nxF_lt h b
theorem tbP_lt {M : mv_Mem} (h : tX M) {p : Nat} (hp : p < 201) : tbP (lx M) p < 201 := by
  have b := nbP_lt h hp
  unfold tbP
  split
  · exact b
  split
  · exact b
  split
  · exact nxF_lt h b
  rename_i h1 h2 h3
  have h3 : lx M (nbP (lx M) p) = 44 := by omega
  have a3 : nbP (lx M) p < 96 := lx_end h (by rw [h3]; decide)
  have b4 := nbP_lt h (show nbP (lx M) p + 1 < 201 by omega)
  split
  · exact b4
  split
  · exact b4
  split
  · exact nxF_lt h b4
  rename_i h4 h5 h6
  have h6 : lx M (nbP (lx M) (nbP (lx M) p + 1)) = 44 := by omega
  have a6 : nbP (lx M) (nbP (lx M) p + 1) < 96 := lx_end h (by rw [h6]; decide)
  have e : tbU (lx M) p < 97 := by unfold tbU; omega
  split
  · omega
  rename_i h7
  split
  · omega
  split
  · omega
  split
  · omega
  · exact nxF_lt h (by omega)
theorem pkF_lt {M : mv_Mem} (h : tX M) (nT : Nat) : ∀ n p x, p < 201 → (pkF (lx M) nT n p x).2.1 < 201
  | 0, p, x, hp => hp
  | n + 1, p, x, hp => by
    unfold pkF
    split
    · exact hp
    split
    · exact hp
    rename_i c1 c2
    have := fgF_end h c2
    split
    · show p + 1 < 201
      omega
    split
    · show p + 1 < 201
      omega
    · exact pkF_lt h nT n _ _ (by omega)
theorem pkP_lt {M : mv_Mem} (h : tX M) {nT p : Nat} (hp : p < 201) : pkP (lx M) nT p < 201 := by
  have := pkF_lt h nT 6 p (nI 0) hp
  unfold pkP
  split
  · exact this
  split
  · exact this
  · exact nxF_lt h this
theorem drF_lt {M : mv_Mem} (h : tX M) (nP : Nat) : ∀ n k p N, p < 201 → (drF (lx M) nP n k p N).2.1 < 201
  | 0, k, p, N, hp => hp
  | n + 1, k, p, N, hp => by
    unfold drF
    split
    · exact hp
    split
    · exact nxF_lt h hp
    rename_i c1 c2
    have := fgF_end h c2
    split
    · exact nxF_lt h (by omega)
    split
    · exact drF_lt h nP n _ _ _ (by omega)
    split
    · exact drF_lt h nP n _ _ _ (by omega)
    · exact nxF_lt h (by omega)
/-! what the reader keeps -/
def iL (M : mv_Mem) : Prop := tX M ∧ (∃ p, p < 201 ∧ M 10 2 = nI p) ∧ gL M 11
theorem iL_pl {M : mv_Mem} {q : Nat} (h1 : tX M) (h2 : gL M 11) (h : q < 201) : iL (mv_up M 10 2 (nI q)) := ⟨tX_up h1 (by decide) (by decide), pl_ex h, gU10 h2⟩
theorem iL_fw {M : mv_Mem} (h : iL M) : iL (fwM M) := by
  obtain ⟨h1, ⟨p, hp, hP⟩, h3⟩ := h
  exact iL_pl h1 h3 (nxF_lt h1 (by rw [hP, q_cl (by omega)]; exact hp))
theorem tX_at {M : mv_Mem} {n R : Nat} {kd s : Int32} (h : tX M) : tX (atM M 11 n kd s R) := by
  unfold atM thM
  exact tX_up (tX_up (tX_up (tX_up (tX_up (tX_up (tX_up (tX_up (tX_up (tX_up (tX_up h (by decide) (by decide)) (by decide) (by decide)) (by decide) (by decide)) (by decide) (by decide)) (by decide) (by decide)) (by decide) (by decide)) (by decide) (by decide)) (by decide) (by decide)) (by decide) (by decide)) (by decide) (by decide)) (by decide) (by decide)
theorem iL_32 {M : mv_Mem} (h : iL M) : iL (m32 M) := by
  obtain ⟨h1, ⟨p, hp, hP⟩, h3⟩ := h
  obtain ⟨nT, hnT, hT⟩ := h3.1
  unfold m32
  rw [hP, hT, q_cl (show p < 2147483648 by omega), q_cl (show nT < 2147483648 by omega)]
  split
  · rename_i z
    have z1 := z.1
    unfold tbB at z1
    by_cases c1 : nbF (lx M) p = 0
    · rw [if_pos c1] at z1; exact absurd z1 (by decide)
    rw [if_neg c1] at z1
    by_cases c2 : 4 < nbF (lx M) p
    · rw [if_pos c2] at z1; exact absurd z1 (by decide)
    rw [if_neg c2] at z1
    by_cases c3 : ¬ lx M (nbP (lx M) p) = 44
    · rw [if_pos c3] at z1; exact absurd z1 (by decide)
    rw [if_neg c3] at z1
    by_cases c4 : nbF (lx M) (nbP (lx M) p + 1) = 0
    · rw [if_pos c4] at z1; exact absurd z1 (by decide)
    rw [if_neg c4] at z1
    by_cases c5 : 2 < nbF (lx M) (nbP (lx M) p + 1)
    · rw [if_pos c5] at z1; exact absurd z1 (by decide)
    exact iL_pl (tX_at h1) (gL_atM h3 (by omega) (by omega) (by omega)) (tbP_lt h1 hp)
  · exact iL_pl h1 h3 (tbP_lt h1 hp)
theorem iL_34 {M : mv_Mem} (h : iL M) : iL (m34 M) := by
  obtain ⟨h1, ⟨p, hp, hP⟩, h3⟩ := h
  obtain ⟨nT, hnT, hT⟩ := h3.1
  obtain ⟨nP, hnP, hN⟩ := h3.2.1
  unfold m34
  rw [hP, hT, hN, q_cl (show p < 2147483648 by omega), q_cl (show nT < 2147483648 by omega), q_cl (show nP < 2147483648 by omega)]
  split
  · rename_i z
    exact iL_pl (tX_up (tX_up h1 (by decide) (by decide)) (by decide) (by decide)) (gU_h (gU_5 (a := 11) h3 (pkF_set (lx M) nT hnT 6 p (nI 0) ⟨0, by decide, rfl⟩)) ⟨fun z => absurd z (by decide), fun _ => ⟨nP + 1, by omega, rfl⟩, fun z => absurd z (by decide), fun z => absurd z (by decide)⟩) (pkP_lt h1 hp)
  · exact iL_pl h1 h3 (pkP_lt h1 hp)
theorem iL_35 {M : mv_Mem} (h : iL M) : iL (m35 M) := by
  obtain ⟨h1, ⟨p, hp, hP⟩, h3⟩ := h
  unfold m35
  rw [hP, q_cl (show p < 2147483648 by omega)]
  split
  · rename_i z
    unfold lmB at z
    by_cases c1 : nbF (lx M) p < 2
    · rw [if_pos c1] at z; exact absurd z (by decide)
    rw [if_neg c1] at z
    by_cases c2 : 41 < nbF (lx M) p
    · rw [if_pos c2] at z; exact absurd z (by decide)
    exact iL_pl (tX_up h1 (by decide) (by decide)) (gU_h h3 ⟨fun z => absurd z (by decide), fun z => absurd z (by decide), fun z => absurd z (by decide), fun _ => ⟨nbF (lx M) p - 1, by omega, rfl⟩⟩) (lmP_lt h1 hp)
  · exact iL_pl h1 h3 (lmP_lt h1 hp)
theorem iL_38 {M : mv_Mem} (h : iL M) : iL (m38 M) := by
  obtain ⟨h1, ⟨p, hp, hP⟩, h3⟩ := h
  obtain ⟨nP, hnP, hN⟩ := h3.2.1
  have e1 : tX (mv_up M 11 2 (nI 0)) := tX_up h1 (by decide) (by decide)
  have e3 : gL (mv_up M 11 2 (nI 0)) 11 := gU_h h3 ⟨fun z => absurd z (by decide), fun z => absurd z (by decide), fun _ => ⟨0, by decide, rfl⟩, fun z => absurd z (by decide)⟩
  have d := drF_gL (lx M) nP hnP 8 0 p (mv_up M 11 2 (nI 0)) rfl e1 e3 (up_ex (by decide) ⟨p, hp, hP⟩)
  have d2 := drF_lt h1 nP 8 0 p (mv_up M 11 2 (nI 0)) hp
  have e : drR M = drF (lx M) nP 8 0 p (mv_up M 11 2 (nI 0)) := by unfold drR; rw [hP, hN, q_cl (show p < 2147483648 by omega), q_cl (show nP < 2147483648 by omega)]
  unfold m38 p38
  rw [e]
  refine iL_pl d.1 d.2 ?_
  split
  · exact d2
  split
  · exact d2
  · exact nxF_lt h1 d2
theorem iL_39 {M : mv_Mem} (h : iL M) : iL (m39 M) := by
  have f := iL_fw h
  unfold m39
  split
  · exact iL_32 f
  split
  · exact iL_34 f
  split
  · exact iL_35 f
  split
  · exact iL_38 f
  · exact f
/-! the text read -/
def rtF : Nat → mv_Mem → Int32 × mv_Mem
  | 0, M => (Int32.ofInt (-4), M)
  | n + 1, M => if (M 10 2).toNatClampNeg < (M 1 3).toNatClampNeg then if r39 M = 0 then (nI (M 10 2).toNatClampNeg, m39 M) else rtF n (m39 M) else (Int32.ofInt (-4), M)
def clM (M : mv_Mem) (a : Nat) : mv_Mem := mv_up (mv_up (mv_up (mv_up M a 0 (nI 0)) a 1 (nI 0)) a 2 (nI 0)) a 3 (nI 20)
theorem r39_01 (M : mv_Mem) : r39 M = 0 ∨ r39 M = 1 := by
  unfold r39
  split
  · exact r32_01 _
  split
  · exact r34_01 _
  split
  · exact r35_01 _
  split
  · exact r38_01 _
  · exact Or.inl rfl
theorem lp40 {S : Nat → mv_Sp} (h20 : S 20 = sp20) (h39 : S 39 = sp39) {sh : mv_Shp} {P : mv_Post} (p1 : oX sh) : ∀ n k (M : mv_Mem) x2, k + n = 200 → iL M → P (some (.int (rtF n M).1)) sh (rtF n M).2 → mr40 S P 14 [some (.ref 10), some (.int (nI k)), x2] [] sh M 0 0
  | 0, k, M, x2, hk, hi, hQ => by
    obtain rfl : k = 200 := by omega
    rw [e40_14]
    simp (disch := first | assumption | omega) only [e40_0, e40_1, e40_2, e40_5, e40_6, e40_9, e40_12, e40_13, e40_15, e40_18, e40_21, e40_22, e40_25, e40_26, e40_29, e40_32, e40_35, e40_36, e40_39, e40_40, e40_41, e40_44, e40_47, e40_48, e40_49, e40_52, e40_55, e40_57, q_gv0, q_gvs, q_isI1, q_isA1, q_hs0, q_hsn, q_hsi, q_hsr, q_hss, q_inc1, List.set_cons_zero, List.set_cons_succ, ↓reduceIte, q_ss0, q_ssi, q_ssr, q_nr0, q_nr10, q_nr11, q_tlS, q_tlN, q_cl, q_let, q_lef, q_ltt, q_ltf, q_eqt, q_eqf, q_add, q_mul, Nat.reduceAdd, Nat.reduceLeDiff, Nat.reduceEqDiff, eq_self, Nat.zero_le, Nat.le_refl, not_false_eq_true, not_true_eq_false, true_and, and_true, and_self, if_true, if_false]
    exact hQ
  | n + 1, k, M, x2, hk, hi, hQ => by
    rw [e40_14]
    obtain ⟨p, hp, hP⟩ := hi.2.1
    obtain ⟨l, hl, hL, -⟩ := hi.1.1
    have p2 := hi.1
    have p3 := hi.2.1
    have g0 : ∃ n, n < 7 ∧ M 11 0 = nI n := by obtain ⟨n, h, e⟩ := hi.2.2.1; exact ⟨n, by omega, e⟩
    have g1 : ∃ n, n < 7 ∧ M 11 1 = nI n := by obtain ⟨n, h, e⟩ := hi.2.2.2.1; exact ⟨n, by omega, e⟩
    unfold rtF at hQ
    rw [hP, hL, q_cl (show p < 2147483648 by omega), q_cl (show l < 2147483648 by omega)] at hQ
    by_cases c1 : p < l
    · rw [if_pos c1] at hQ
      rcases r39_01 M with c2 | c2
      · rw [if_pos c2] at hQ
        simp (disch := first | assumption | omega) only [e40_0, e40_1, e40_2, e40_5, e40_6, e40_9, e40_12, e40_13, e40_15, e40_18, e40_21, e40_22, e40_25, e40_26, e40_29, e40_32, e40_35, e40_36, e40_39, e40_40, e40_41, e40_44, e40_47, e40_48, e40_49, e40_52, e40_55, e40_57, q_gv0, q_gvs, q_isI1, q_isA1, q_hs0, q_hsn, q_hsi, q_hsr, q_hss, q_inc1, List.set_cons_zero, List.set_cons_succ, ↓reduceIte, q_ss0, q_ssi, q_ssr, q_nr0, q_nr10, q_nr11, q_tlS, q_tlN, q_cl, q_let, q_lef, q_ltt, q_ltf, q_eqt, q_eqf, q_add, q_mul, Nat.reduceAdd, Nat.reduceLeDiff, Nat.reduceEqDiff, eq_self, Nat.zero_le, Nat.le_refl, not_false_eq_true, not_true_eq_false, true_and, and_true, and_self, if_true, if_false, p1.r0, p1.r2, p1.o10, p1.o1, hP, hL, cl20 h20, cl39 h39, c2]
        exact hQ
      · rw [if_neg (by rw [c2]; decide)] at hQ
        simp (disch := first | assumption | omega) only [e40_0, e40_1, e40_2, e40_5, e40_6, e40_9, e40_12, e40_13, e40_15, e40_18, e40_21, e40_22, e40_25, e40_26, e40_29, e40_32, e40_35, e40_36, e40_39, e40_40, e40_41, e40_44, e40_47, e40_48, e40_49, e40_52, e40_55, e40_57, q_gv0, q_gvs, q_isI1, q_isA1, q_hs0, q_hsn, q_hsi, q_hsr, q_hss, q_inc1, List.set_cons_zero, List.set_cons_succ, ↓reduceIte, q_ss0, q_ssi, q_ssr, q_nr0, q_nr10, q_nr11, q_tlS, q_tlN, q_cl, q_let, q_lef, q_ltt, q_ltf, q_eqt, q_eqf, q_add, q_mul, Nat.reduceAdd, Nat.reduceLeDiff, Nat.reduceEqDiff, eq_self, Nat.zero_le, Nat.le_refl, not_false_eq_true, not_true_eq_false, true_and, and_true, and_self, if_true, if_false, p1.r0, p1.r2, p1.o10, p1.o1, hP, hL, cl20 h20, cl39 h39, c2]
        exact lp40 h20 h39 p1 n (k + 1) (m39 M) _ (by omega) (iL_39 hi) hQ
    · rw [if_neg c1] at hQ
      simp (disch := first | assumption | omega) only [e40_0, e40_1, e40_2, e40_5, e40_6, e40_9, e40_12, e40_13, e40_15, e40_18, e40_21, e40_22, e40_25, e40_26, e40_29, e40_32, e40_35, e40_36, e40_39, e40_40, e40_41, e40_44, e40_47, e40_48, e40_49, e40_52, e40_55, e40_57, q_gv0, q_gvs, q_isI1, q_isA1, q_hs0, q_hsn, q_hsi, q_hsr, q_hss, q_inc1, List.set_cons_zero, List.set_cons_succ, ↓reduceIte, q_ss0, q_ssi, q_ssr, q_nr0, q_nr10, q_nr11, q_tlS, q_tlN, q_cl, q_let, q_lef, q_ltt, q_ltf, q_eqt, q_eqf, q_add, q_mul, Nat.reduceAdd, Nat.reduceLeDiff, Nat.reduceEqDiff, eq_self, Nat.zero_le, Nat.le_refl, not_false_eq_true, not_true_eq_false, true_and, and_true, and_self, if_true, if_false, p1.r0, p1.r2, p1.o10, p1.o1, hP, hL, cl20 h20]
      exact hQ
theorem gL_cl {M : mv_Mem} {a : Nat} (h : gL M a) : gL (clM M a) a := by
  unfold clM
  refine gU_h (gU_h (gU_h (gU_h h ?_) ?_) ?_) ?_
  · exact ⟨fun _ => ⟨0, by decide, rfl⟩, fun z => absurd z (by decide), fun z => absurd z (by decide), fun z => absurd z (by decide)⟩
  · exact ⟨fun z => absurd z (by decide), fun _ => ⟨0, by decide, rfl⟩, fun z => absurd z (by decide), fun z => absurd z (by decide)⟩
  · exact ⟨fun z => absurd z (by decide), fun z => absurd z (by decide), fun _ => ⟨0, by decide, rfl⟩, fun z => absurd z (by decide)⟩
  · exact ⟨fun z => absurd z (by decide), fun z => absurd z (by decide), fun z => absurd z (by decide), fun _ => ⟨20, by decide, rfl⟩⟩
def rt0 (M : mv_Mem) : mv_Mem := clM (mv_up M 10 2 (nI 0)) 11
def sp40 : mv_Sp := fun As sh M Q => As = [.ref 10] ∧ ((oX sh) ∧ (tX M) ∧ (gL M 11)) ∧ Q (some (.int (rtF 200 (rt0 M)).1)) (sh) ((rtF 200 (rt0 M)).2)
theorem cl40 {S : Nat → mv_Sp} (hS : S 40 = sp40) {sh : mv_Shp} {M : mv_Mem}  (p1 : oX sh) (p2 : tX M) (p3 : gL M 11) {K : mv_Kt} {pc : Nat} {L : mv_Loc} {st : List Value} {cc_ ss_ : Nat} : mv_kal S 40 [.ref 10] sh M K pc L st cc_ ss_ = K pc L ((some (.int (rtF 200 (rt0 M)).1) : Option Value).toList ++ st) (sh) ((rtF 200 (rt0 M)).2) cc_ ss_ := by
  refine q_kal (fun F => q_cali (fun Q => ?_))
  rw [hS]
  constructor
  · rintro ⟨hE, ⟨zp1, zp2, zp3⟩, hQ⟩
    exact hQ
  · intro hQ
    exact ⟨rfl, ⟨p1, p2, p3⟩, hQ⟩
theorem ct40 {S : Nat → mv_Sp} (h18 : S 18 = sp18) (h20 : S 20 = sp20) (h39 : S 39 = sp39) : ∀ As sh M P, sp40 As sh M P → (mv_al0 As).length ≤ 3 ∧ mr40 S P 0 (mv_ent As 3) [] sh M 0 0 := by
  rintro As sh M P ⟨rfl, ⟨p1, p2, p3⟩, hQ⟩
  refine ⟨Nat.le_of_ble_eq_true rfl, ?_⟩
  show mr40 S P 0 [some (.ref 10), none, none] [] sh M 0 0
  have ht := p1.told
  have e0 : iL (rt0 M) := by
    unfold rt0
    refine ⟨?_, ?_, gL_cl (gU10 p3)⟩
    · unfold clM
      exact tX_up (tX_up (tX_up (tX_up (tX_up p2 (by decide) (by decide)) (by decide) (by decide)) (by decide) (by decide)) (by decide) (by decide)) (by decide) (by decide)
    · unfold clM
      exact up_ex (by decide) (up_ex (by decide) (up_ex (by decide) (up_ex (by decide) (pl_ex (by decide)))))
  have e1 : mv_up (mv_up (mv_up (mv_up (mv_up M 10 2 (nI 0)) 11 0 (nI 0)) 11 1 (nI 0)) 11 2 (nI 0)) 11 3 (nI 20) = rt0 M := rfl
  simp (disch := first | assumption | omega) only [e40_0, e40_1, e40_2, e40_5, e40_6, e40_9, e40_12, e40_13, q_gv0, q_gvs, q_isI1, q_isA1, q_hs0, q_hsn, q_hsi, q_hsr, q_hss, q_inc1, List.set_cons_zero, List.set_cons_succ, ↓reduceIte, q_ss0, q_ssi, q_ssr, q_nr0, q_nr10, q_nr11, q_tlS, q_tlN, q_cl, q_let, q_lef, q_ltt, q_ltf, q_eqt, q_eqf, q_add, q_mul, Nat.reduceAdd, Nat.reduceLeDiff, Nat.reduceEqDiff, eq_self, Nat.zero_le, Nat.le_refl, not_false_eq_true, not_true_eq_false, true_and, and_true, and_self, if_true, if_false, p1.o10, p1.r1, p1.rp2, ht.o, cl18 h18, e1]
  exact lp40 h20 h39 p1 200 0 (rt0 M) none rfl e0 hQ
