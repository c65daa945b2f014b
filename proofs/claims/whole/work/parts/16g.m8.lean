/-! the reader of the class and the model's: what they tell -/
theorem bitA : ∀ (k : Fin 64) (b : Fin 6), (nI k.1 >>> (nI b.1 &&& 31) &&& nI 1 = nI 1) ∨ (nI k.1 ||| (nI 1 <<< (nI b.1 &&& 31)) = nI (k.1 ||| 1 <<< b.1) ∧ k.1 ||| 1 <<< b.1 < 64 ∧ btN (k.1 ||| 1 <<< b.1) = btN k.1 + 1) := by decide +kernel
theorem bitB : ∀ (k : Fin 64) (b : Fin 6), btN k.1 = 6 → nI k.1 >>> (nI b.1 &&& 31) &&& nI 1 = nI 1 := by decide +kernel
theorem fg59 {T : Nat → Nat} {p : Nat} (h : T p = 59) : fgF T p = 0 := by
  unfold fgF
  rw [h]; rfl
theorem pk_pm (T : Nat → Nat) (nT : Nat) (hT : nT ≤ 6) (hE : ∀ q, ¬ fgF T q = 0 → q < 200) : ∀ m n p k, k < 64 → btN k + m = 6 → 300 ≤ p + n →
    (((pkF T nT m p (nI k)).1 = 1 ∧ T (pkF T nT m p (nI k)).2.1 = 59) ∨ ((pmF T nT n p (nI k)).1 = 1 ∧ T (pmF T nT n p (nI k)).2.1 = 59)) → pkF T nT m p (nI k) = pmF T nT n p (nI k) ∧ (pmF T nT n p (nI k)).1 = 1 := by
  intro m
  induction m with
  | zero =>
    intro n p k hk hb hn h
    by_cases c1 : T p = 59
    · have c2 := fg59 c1
      cases n with
      | zero => exact ⟨rfl, rfl⟩
      | succ n =>
        unfold pmF pkF
        rw [if_pos c2]
        exact ⟨rfl, rfl⟩
    · rcases h with h | h
      · exact absurd h.2 c1
      · cases n with
        | zero => exact absurd h.2 c1
        | succ n =>
          unfold pmF at h
          by_cases c2 : fgF T p = 0
          · rw [if_pos c2] at h; exact absurd h.2 c1
          rw [if_neg c2] at h
          by_cases c3 : nT < fgF T p
          · rw [if_pos c3] at h; exact absurd h.1 (by simp)
          rw [if_neg c3, if_pos (bitB ⟨k, hk⟩ ⟨fgF T p - 1, by omega⟩ (by dsimp only; omega))] at h
          exact absurd h.1 (by simp)
  | succ m ih =>
    intro n p k hk hb hn h
    by_cases c1 : T p = 59
    · have c2 := fg59 c1
      cases n with
      | zero =>
        unfold pmF pkF
        rw [if_pos c1]
        exact ⟨rfl, rfl⟩
      | succ n =>
        unfold pmF pkF
        rw [if_pos c1, if_pos c2]
        exact ⟨rfl, rfl⟩
    · by_cases c2 : fgF T p = 0
      · exfalso
        rcases h with h | h
        · unfold pkF at h
          rw [if_neg c1, if_pos c2] at h
          exact absurd h.1 (by simp)
        · cases n with
          | zero => exact absurd h.2 c1
          | succ n =>
            unfold pmF at h
            rw [if_pos c2] at h
            exact absurd h.2 c1
      · have hp := hE p c2
        obtain ⟨n, rfl⟩ : ∃ n', n = n' + 1 := ⟨n - 1, by omega⟩
        unfold pmF pkF at h ⊢
        rw [if_neg c1, if_neg c2] at h ⊢
        by_cases c3 : nT < fgF T p
        · rw [if_pos c3, if_neg c2, if_pos c3] at h
          rcases h with h | h <;> exact absurd h.1 (by simp)
        rw [if_neg c3, if_neg c2, if_neg c3] at h ⊢
        rcases bitA ⟨k, hk⟩ ⟨fgF T p - 1, by omega⟩ with c4 | ⟨c4, c5, c6⟩
        · have c4 : nI k >>> (nI (fgF T p - 1) &&& 31) &&& nI 1 = nI 1 := c4
          rw [if_pos c4, if_pos c4] at h
          rcases h with h | h <;> exact absurd h.1 (by simp)
        · by_cases c7 : nI k >>> (nI (fgF T p - 1) &&& 31) &&& nI 1 = nI 1
          · rw [if_pos c7, if_pos c7] at h
            rcases h with h | h <;> exact absurd h.1 (by simp)
          rw [if_neg c7, if_neg c7] at h ⊢
          have c4 : nI k ||| (nI 1 <<< (nI (fgF T p - 1) &&& 31)) = nI (k ||| 1 <<< (fgF T p - 1)) := c4
          rw [c4] at h ⊢
          exact ih n (p + 1) _ c5 (by dsimp only at c6; omega) (by omega) h
theorem drF_out {T : Nat → Nat} {nP b : Nat} (h : ¬ b = 17) (h1 : ¬ b = 11) : ∀ n k p M, (drF T nP n k p M).2.2.2 b = M b
  | 0, _, _, _ => rfl
  | n + 1, k, p, M => by
    unfold drF
    split
    · rfl
    split
    · rfl
    split
    · rfl
    split
    · rw [drF_out h h1 n, q_upO h1, q_upO h]
    split
    · rw [drF_out h h1 n, q_upO h1, q_upO h]
    · rfl
theorem drF_11 {T : Nat → Nat} {nP j : Nat} (h : ¬ j = 2) : ∀ n k p M, (drF T nP n k p M).2.2.2 11 j = M 11 j
  | 0, _, _, _ => rfl
  | n + 1, k, p, M => by
    unfold drF
    split
    · rfl
    split
    · rfl
    split
    · rfl
    split
    · rw [drF_11 h n, q_upN (by omega), q_upO (by decide)]
    split
    · rw [drF_11 h n, q_upN (by omega), q_upO (by decide)]
    · rfl
theorem dr_dm (T : Nat → Nat) (nP : Nat) (hE : ∀ q, ¬ fgF T q = 0 → q < 200) : ∀ n m k p (M : mv_Mem) (d : Nat → Int32), k + n = 8 → 300 ≤ p + m → M 11 2 = nI k → (∀ j, j < k → M 17 j = d j ∧ ∃ q w, q < nP ∧ w < 2 ∧ M 17 j = nI (10 * q + w)) →
    (((drF T nP n k p M).1 = 1 ∧ T (drF T nP n k p M).2.1 = 59) ∨ ((dmF T nP m k p d).1 = 1 ∧ T (dmF T nP m k p d).2.1 = 59)) →
    (drF T nP n k p M).1 = 1 ∧ (dmF T nP m k p d).1 = 1 ∧ (drF T nP n k p M).2.1 = (dmF T nP m k p d).2.1 ∧ (drF T nP n k p M).2.2.1 = (dmF T nP m k p d).2.2.1 ∧ (drF T nP n k p M).2.2.1 ≤ 8 ∧ (drF T nP n k p M).2.2.2 11 2 = nI (drF T nP n k p M).2.2.1 ∧
      ∀ j, j < (drF T nP n k p M).2.2.1 → (drF T nP n k p M).2.2.2 17 j = (dmF T nP m k p d).2.2.2 j ∧ ∃ q w, q < nP ∧ w < 2 ∧ (drF T nP n k p M).2.2.2 17 j = nI (10 * q + w) := by
  intro n
  induction n with
  | zero =>
    intro m k p M d hk hm h2 hj h
    obtain rfl : k = 8 := by omega
    by_cases c1 : T p = 59
    · have c2 := fg59 c1
      have e : dmF T nP m 8 p d = (1, p, 8, d) := by
        cases m with
        | zero => rfl
        | succ m => unfold dmF; rw [if_pos c2]
      rw [e]
      exact ⟨rfl, rfl, rfl, rfl, Nat.le_refl _, h2, hj⟩
    · exfalso
      rcases h with h | h
      · exact absurd h.2 c1
      · cases m with
        | zero => exact absurd h.2 c1
        | succ m =>
          unfold dmF at h
          by_cases c2 : fgF T p = 0
          · rw [if_pos c2] at h; exact absurd h.2 c1
          rw [if_neg c2] at h
          by_cases c3 : nP < fgF T p
          · rw [if_pos c3] at h; exact absurd h.1 (by simp)
          rw [if_neg c3] at h
          by_cases c4 : T (p + 1) = 102
          · rw [if_pos c4, if_pos rfl] at h; exact absurd h.1 (by simp)
          rw [if_neg c4] at h
          by_cases c5 : T (p + 1) = 98
          · rw [if_pos c5, if_pos rfl] at h; exact absurd h.1 (by simp)
          rw [if_neg c5] at h
          exact absurd h.1 (by simp)
  | succ n ih =>
    intro m k p M d hk hm h2 hj h
    by_cases c1 : T p = 59
    · have c2 := fg59 c1
      have e : dmF T nP m k p d = (1, p, k, d) := by
        cases m with
        | zero => rfl
        | succ m => unfold dmF; rw [if_pos c2]
      have e2 : drF T nP (n + 1) k p M = (1, p, k, M) := by unfold drF; rw [if_pos c1]
      rw [e, e2]
      exact ⟨rfl, rfl, rfl, rfl, by dsimp only; omega, h2, hj⟩
    · by_cases c2 : fgF T p = 0
      · exfalso
        rcases h with h | h
        · unfold drF at h
          rw [if_neg c1, if_pos c2] at h
          exact absurd h.1 (by simp)
        · cases m with
          | zero => exact absurd h.2 c1
          | succ m =>
            unfold dmF at h
            rw [if_pos c2] at h
            exact absurd h.2 c1
      · have hp := hE p c2
        obtain ⟨m, rfl⟩ : ∃ m', m = m' + 1 := ⟨m - 1, by omega⟩
        have k8 : ¬ k = 8 := by omega
        unfold dmF drF at h ⊢
        rw [if_neg c1, if_neg c2, if_neg c2] at h ⊢
        by_cases c3 : nP < fgF T p
        · rw [if_pos c3, if_pos c3] at h
          rcases h with h | h <;> exact absurd h.1 (by simp)
        rw [if_neg c3, if_neg c3] at h ⊢
        have hj2 : ∀ w, w < 2 → ∀ j, j < k + 1 → mv_up (mv_up M 17 k (nI (10 * (fgF T p - 1) + w))) 11 2 (nI (k + 1)) 17 j = upd d k (nI (10 * (fgF T p - 1) + w)) j ∧ ∃ q w', q < nP ∧ w' < 2 ∧ mv_up (mv_up M 17 k (nI (10 * (fgF T p - 1) + w))) 11 2 (nI (k + 1)) 17 j = nI (10 * q + w') := by
          intro w hw j hjk
          rw [q_upO (by decide)]
          by_cases z : j = k
          · subst z
            rw [q_upS]
            exact ⟨by simp [upd], fgF T p - 1, w, by omega, hw, rfl⟩
          · rw [q_upN (fun y => z y.2)]
            have := hj j (by omega)
            exact ⟨by rw [this.1]; simp [upd, z], this.2⟩
        by_cases c4 : T (p + 1) = 102
        · rw [if_pos c4, if_pos c4, if_neg k8] at h ⊢
          exact ih m (k + 1) (p + 1 + 1) _ _ (by omega) (by omega) q_upS (hj2 0 (by decide)) h
        rw [if_neg c4, if_neg c4] at h ⊢
        by_cases c5 : T (p + 1) = 98
        · rw [if_pos c5, if_pos c5, if_neg k8] at h ⊢
          exact ih m (k + 1) (p + 1 + 1) _ _ (by omega) (by omega) q_upS (hj2 1 (by decide)) h
        rw [if_neg c5, if_neg c5] at h
        rcases h with h | h <;> exact absurd h.1 (by simp)
/-- what is told is the same: tablets, packs and draft, twist -/
def rB (X M : mv_Mem) : Prop :=
  (∃ nT, nT ≤ 6 ∧ X 11 0 = nI nT ∧ M 0 19 = nI nT ∧ (∀ t, t < nT → X 12 t = M 10 t ∧ X 13 t = M 11 t) ∧ (∀ t h, t < nT → h < 4 → X 14 (t * 4 + h) = M 12 (4 * t + h) ∧ X 15 (t * 4 + h) = nI (faF (fun h => X 14 (t * 4 + h)) h h))) ∧
  (∃ nP, nP ≤ 6 ∧ X 11 1 = nI nP ∧ M 0 23 = nI nP ∧ (∀ p, p < nP → X 16 p = M 13 p) ∧ (∃ nK, nK ≤ 8 ∧ X 11 2 = nI nK ∧ M 0 26 = nI nK ∧ ∀ k, k < nK → X 17 k = M 14 k ∧ ∃ q w, q < nP ∧ w < 2 ∧ X 17 k = nI (10 * q + w))) ∧
  (∃ nL, nL ≤ 40 ∧ X 11 3 = nI nL ∧ M 0 25 = nI nL)
theorem rB_of {X X' M M' : mv_Mem} (h : rB X M) (hX : ∀ b, 11 ≤ b → b ≤ 17 → X' b = X b) (h0 : ∀ j, j = 19 ∨ j = 23 ∨ j = 25 ∨ j = 26 → M' 0 j = M 0 j) (hM : ∀ b, 10 ≤ b → b ≤ 14 → M' b = M b) : rB X' M' := by
  unfold rB
  rw [hX 11 (by decide) (by decide), hX 12 (by decide) (by decide), hX 13 (by decide) (by decide), hX 14 (by decide) (by decide), hX 15 (by decide) (by decide), hX 16 (by decide) (by decide), hX 17 (by decide) (by decide),
    h0 19 (by decide), h0 23 (by decide), h0 25 (by decide), h0 26 (by decide), hM 10 (by decide) (by decide), hM 11 (by decide) (by decide), hM 12 (by decide) (by decide), hM 13 (by decide) (by decide), hM 14 (by decide) (by decide)]
  exact h
theorem faF_cong {f g : Nat → Int32} {h : Nat} (e : ∀ i, i ≤ h → f i = g i) : ∀ n, faF f h n = faF g h n
  | 0 => rfl
  | n + 1 => by
    unfold faF
    rw [e _ (by omega), e _ (Nat.le_refl h), faF_cong e n]
theorem at_k {X : mv_Mem} {n : Nat} {kd s : Int32} {R t : Nat} : atM X 11 n kd s R 12 t = if t = n then kd else X 12 t := by
  unfold atM thM
  rw [q_upO (by decide), q_upO (by decide), q_upO (by decide), q_upO (by decide), q_upO (by decide), q_upO (by decide), q_upO (by decide), q_upO (by decide), q_upO (by decide), q_upO (by decide)]
  by_cases h : t = n
  · subst h; rw [if_pos rfl]; exact q_upS
  · rw [if_neg h]; exact q_upN (fun z => h z.2)
theorem at_s {X : mv_Mem} {n : Nat} {kd s : Int32} {R t : Nat} : atM X 11 n kd s R 13 t = if t = n then s else X 13 t := by
  unfold atM thM
  rw [q_upO (by decide), q_upO (by decide), q_upO (by decide), q_upO (by decide), q_upO (by decide), q_upO (by decide), q_upO (by decide), q_upO (by decide), q_upO (by decide)]
  by_cases h : t = n
  · subst h; rw [if_pos rfl]; exact q_upS
  · rw [if_neg h, q_upN (fun z => h z.2)]; exact congrFun (q_upO (by decide)) t
theorem at_th {X : mv_Mem} {n : Nat} {kd s : Int32} {R : Nat} : atM X 11 n kd s R 14 = thM X 11 n kd s R 14 := by
  unfold atM
  rw [q_upO (by decide), q_upO (by decide), q_upO (by decide), q_upO (by decide), q_upO (by decide)]
theorem at_lo {X : mv_Mem} {n : Nat} {kd s : Int32} {R j : Nat} (h : j < n * 4) : atM X 11 n kd s R 14 j = X 14 j ∧ atM X 11 n kd s R 15 j = X 15 j := by
  constructor
  · rw [at_th]
    unfold thM
    rw [q_upN (by omega), q_upN (by omega), q_upN (by omega), q_upN (by omega), q_upO (by decide), q_upO (by decide)]
  · unfold atM
    rw [q_upO (by decide), q_upN (by omega), q_upN (by omega), q_upN (by omega), q_upN (by omega)]
    unfold thM
    rw [q_upO (by decide), q_upO (by decide), q_upO (by decide), q_upO (by decide), q_upO (by decide), q_upO (by decide)]
theorem at_fa {X : mv_Mem} {n : Nat} {kd s : Int32} {R h : Nat} (hh : h < 4) : atM X 11 n kd s R 15 (n * 4 + h) = nI (faF (fun h => atM X 11 n kd s R 14 (n * 4 + h)) h h) := by
  rw [at_th]
  unfold atM
  rw [q_upO (by decide)]
  rcases (show h = 0 ∨ h = 1 ∨ h = 2 ∨ h = 3 by omega) with rfl | rfl | rfl | rfl
  · rw [q_upN (by omega), q_upN (by omega), q_upN (by omega)]; exact q_upS
  · rw [q_upN (by omega), q_upN (by omega)]; exact q_upS
  · rw [q_upN (by omega)]; exact q_upS
  · exact q_upS
def dgR (R h : Nat) : Nat := if h = 3 then R % 10 else if h = 2 then R / 10 % 10 else if h = 1 then R / 10 / 10 % 10 else R / 10 / 10 / 10 % 10
theorem at_hi {X : mv_Mem} {n : Nat} {kd s : Int32} {R h : Nat} (hh : h < 4) : atM X 11 n kd s R 14 (n * 4 + h) = nI (dgR R h) := by
  rw [at_th]
  unfold thM
  rcases (show h = 0 ∨ h = 1 ∨ h = 2 ∨ h = 3 by omega) with rfl | rfl | rfl | rfl
  · exact q_upS
  · rw [q_upN (by omega)]; exact q_upS
  · rw [q_upN (by omega), q_upN (by omega)]; exact q_upS
  · rw [q_upN (by omega), q_upN (by omega), q_upN (by omega)]; exact q_upS
theorem at_11 {X : mv_Mem} {n : Nat} {kd s : Int32} {R j : Nat} (h : ¬ j = 0) : atM X 11 n kd s R 11 j = X 11 j := by
  unfold atM thM
  rw [q_upN (by omega), q_upO (by decide), q_upO (by decide), q_upO (by decide), q_upO (by decide), q_upO (by decide), q_upO (by decide), q_upO (by decide), q_upO (by decide), q_upO (by decide), q_upO (by decide)]
theorem at_o {X : mv_Mem} {n : Nat} {kd s : Int32} {R b : Nat} (h : ¬ b = 11) (h1 : ¬ b = 12) (h2 : ¬ b = 13) (h3 : ¬ b = 14) (h4 : ¬ b = 15) : atM X 11 n kd s R b = X b := by
  unfold atM thM
  rw [q_upO h, q_upO h4, q_upO h4, q_upO h4, q_upO h4, q_upO h3, q_upO h3, q_upO h3, q_upO h3, q_upO h2, q_upO h1]
theorem tbR_dg {T : Nat → Nat} {p h : Nat} (hh : h < 4) (d0 : ¬ fgF T (tbU T p) = 0) (d1 : ¬ fgF T (tbU T p + 1) = 0) (d2 : ¬ fgF T (tbU T p + 1 + 1) = 0) (d3 : ¬ fgF T (tbU T p + 1 + 1 + 1) = 0) : dgR (tbR T p) h = fgF T (tbU T p + h) - 1 := by
  have f0 := fgF_le T (tbU T p)
  have f1 := fgF_le T (tbU T p + 1)
  have f2 := fgF_le T (tbU T p + 1 + 1)
  have f3 := fgF_le T (tbU T p + 1 + 1 + 1)
  unfold dgR tbR
  rcases (show h = 0 ∨ h = 1 ∨ h = 2 ∨ h = 3 by omega) with rfl | rfl | rfl | rfl
  · rw [if_neg (by decide), if_neg (by decide), if_neg (by decide)]
    show _ = fgF T (tbU T p) - 1
    omega
  · rw [if_neg (by decide), if_neg (by decide), if_pos rfl]; omega
  · rw [if_neg (by decide), if_pos rfl, show tbU T p + 2 = tbU T p + 1 + 1 from rfl]; omega
  · rw [if_pos rfl, show tbU T p + 3 = tbU T p + 1 + 1 + 1 from rfl]; omega
theorem rB_tab {X M N : mv_Mem} {n kd s R : Nat} {c : Nat → Nat} (h : rB X M) (hn : n < 6) (hN : M 0 19 = nI n) (e : tbE M N n kd s c) (hc : ∀ h, h < 4 → dgR R h = c h) : rB (atM X 11 n (nI kd) (nI s) R) N := by
  obtain ⟨⟨nT, h6, hX0, hM0, ha, hb⟩, ⟨nP, hP6, hX1, hM1, hp, nK, hK8, hX2, hM2, hd⟩, nL, hL, hX3, hM3⟩ := h
  obtain rfl : nT = n := nI_inj (hM0.symm.trans hN) (by omega) (by omega)
  obtain ⟨e19, e23, e25, e26, e10, e10', e11, e11', e12, e12', e13, e14⟩ := e
  refine ⟨⟨nT + 1, by omega, ?_, e19, fun t ht => ?_, fun t h ht hh => ?_⟩, ⟨nP, hP6, ?_, ?_, ?_, nK, hK8, ?_, ?_, ?_⟩, nL, hL, ?_, ?_⟩
  · unfold atM; exact q_upS
  · rw [at_k, at_s]
    by_cases z : t = nT
    · subst z
      rw [if_pos rfl, if_pos rfl]
      exact ⟨e10.symm, e11.symm⟩
    · rw [if_neg z, if_neg z, e10' t z, e11' t z]
      exact ha t (by omega)
  · by_cases z : t = nT
    · subst z
      rw [at_hi hh, at_fa hh, e12 h hh, hc h hh]
      exact ⟨rfl, rfl⟩
    · have l1 : t * 4 + h < nT * 4 := by omega
      have := hb t h (by omega) hh
      rw [(at_lo l1).1, (at_lo l1).2, e12' _ (by omega)]
      refine ⟨this.1, this.2.trans ?_⟩
      refine congrArg nI (faF_cong (fun i hi => ?_) h)
      rw [(at_lo (show t * 4 + i < nT * 4 by omega)).1]
  · rw [at_11 (by decide)]; exact hX1
  · rw [e23]; exact hM1
  · rw [at_o (by decide) (by decide) (by decide) (by decide) (by decide), e13]; exact hp
  · rw [at_11 (by decide)]; exact hX2
  · rw [e26]; exact hM2
  · rw [at_o (by decide) (by decide) (by decide) (by decide) (by decide), e14]; exact hd
  · rw [at_11 (by decide)]; exact hX3
  · rw [e25]; exact hM3
