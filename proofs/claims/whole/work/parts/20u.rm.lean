/-! the way back -/
theorem ch_1 {A l i q : Nat} {M N : mv_Mem} (hA : A ≤ 4096) (h : BI A M N) (c : gC N A) (hl : N 0 36 = nI l) (hl2 : l ≤ 4096) (hi : i < l) (e : N 21 i = nI q) (hq : q < A) :
    (N 19 q = Int32.ofInt (-4) ∧ M 59 q = Int32.ofInt (-1)) ∨ ∃ h s j, h < A ∧ j < i ∧ N 21 j = nI h ∧ N 19 q = nI h ∧ cfF M 57 q = nI h ∧ ¬ M 59 q ≤ nI 0 ∧ pcF M 57 q = s ∧ N 20 q = nI s ∧ s < 12 := by
  obtain ⟨l', a1, a2, a3⟩ := c
  obtain rfl : l' = l := nI_inj (a1.symm.trans hl) (by omega) (by omega)
  obtain ⟨q', hq', e2, ⟨b, hb, eb⟩, d⟩ := a3 i hi
  obtain rfl : q' = q := nI_inj (e2.symm.trans e) (by omega) (by omega)
  have nv : ¬ N 20 q' < nI 0 := by rw [eb]; exact nI_pos (by omega)
  rcases h.2 q' hq with ⟨m1, -⟩ | ⟨-, m2, m3⟩ | ⟨-, hh, s, h1, h2, m4, m5, m6⟩
  · exact absurd m1 nv
  · exact Or.inl ⟨m2, m3⟩
  · obtain ⟨x1, x2, x3⟩ := cf_N h1 h2 m6
    rcases d with d | ⟨j, h', hj, hA', f1, f2⟩
    · exact absurd (m4.symm.trans d) (nI_m4 (by omega))
    · obtain rfl : hh = h' := nI_inj (m4.symm.trans f2) (by omega) (by omega)
      exact Or.inr ⟨hh, s, j, hA', hj, f1, m4, x1, x2, x3, m5, h2⟩
theorem ch_wn {A l : Nat} {M N : mv_Mem} (hA : A ≤ 4096) (h : BI A M N) (c : gC N A) (hl : N 0 36 = nI l) (hl2 : l ≤ 4096) : ∀ n m i q, i < n → i < m → i < l → N 21 i = nI q → q < A → wnF M 57 n q = wnY N m q
  | 0, _, _, _, hi, _, _, _, _ => absurd hi (by omega)
  | _ + 1, 0, _, _, _, hi, _, _, _ => absurd hi (by omega)
  | n + 1, m + 1, i, q, h1, h2, hi, e, hq => by
    unfold wnF wnY
    rw [show (57 + 2 : Nat) = 59 from rfl]
    rcases ch_1 hA h c hl hl2 hi e hq with ⟨a, b⟩ | ⟨hh, s, j, a1, a2, a3, a4, a5, a6, a7, a8, a9⟩
    · rw [if_pos a, b, if_pos (by decide)]
    · rw [if_neg a6, a5, a4, if_neg (nI_m4 (by omega)), q_cl (by omega), ch_wn hA h c hl hl2 n m j hh (by omega) (by omega) (by omega) a3 a1]
theorem ch_bk {A l : Nat} {M N : mv_Mem} (hA : A ≤ 4096) (h : BI A M N) (c : gC N A) (hl : N 0 36 = nI l) (hl2 : l ≤ 4096) : ∀ e m i q, i < m → i < l → N 21 i = nI q → q < A → e < wnY N m q → bkF M 57 e q = bkY N e q ∧ pcF M 57 (bkF M 57 e q) = (N 20 (bkY N e q)).toNatClampNeg
  | _, 0, _, _, hi, _, _, _, _ => absurd hi (by omega)
  | e, m + 1, i, q, h2, hi, eq, hq, he => by
    unfold wnY at he
    rcases ch_1 hA h c hl hl2 hi eq hq with ⟨a, b⟩ | ⟨hh, s, j, a1, a2, a3, a4, a5, a6, a7, a8, a9⟩
    · rw [if_pos a] at he
      exact absurd he (by omega)
    · rw [a4, if_neg (nI_m4 (by omega)), q_cl (by omega)] at he
      cases e with
      | zero =>
        unfold bkF bkY
        exact ⟨rfl, by rw [a7, a8, q_cl (by omega)]⟩
      | succ e =>
        unfold bkF bkY
        rw [a5, a4, q_cl (by omega)]
        exact ch_bk hA h c hl hl2 e m j hh (by omega) (by omega) a3 a1 (by omega)
theorem low_m1 {y : Int32} (d : ¬ y = Int32.ofInt (-1)) (c : ¬ y < Int32.ofInt (-1)) : ¬ y < nI 0 := by
  intro z
  have a := Int32.lt_iff_toInt_lt.mp z
  have b : ¬ y.toInt < (Int32.ofInt (-1)).toInt := fun w => c (Int32.lt_iff_toInt_lt.mpr w)
  rw [show (Int32.ofInt (-1)).toInt = -1 by decide] at b
  rw [show (nI 0).toInt = 0 by decide] at a
  refine d (Int32.toInt_inj.mp ?_)
  rw [show (Int32.ofInt (-1)).toInt = -1 by decide]
  omega
theorem fw_gen {A l i q n m : Nat} {M N : mv_Mem} {y : Int32} (hA : A ≤ 4096) (h : BI A M N) (c : gC N A) (hl : N 0 36 = nI l) (hl2 : l ≤ 4096) (h1 : i < n) (h2 : i < m) (hi : i < l) (e : N 21 i = nI q) (hq : q < A) (c3 : ¬ y < Int32.ofInt (-1)) :
    (if y = Int32.ofInt (-1) then nI (wnF M 57 n q) else if y < nI (wnF M 57 n q) then nI (10 * (pcF M 57 (bkF M 57 (wnF M 57 n q - 1 - y.toNatClampNeg) q) / 2) + pcF M 57 (bkF M 57 (wnF M 57 n q - 1 - y.toNatClampNeg) q) % 2) else Int32.ofInt (-4)) =
    (if y = Int32.ofInt (-1) then nI (wnY N m q) else if y < nI (wnY N m q) then nI (10 * ((N 20 (bkY N (wnY N m q - 1 - y.toNatClampNeg) q)).toNatClampNeg / 2) + (N 20 (bkY N (wnY N m q - 1 - y.toNatClampNeg) q)).toNatClampNeg % 2) else Int32.ofInt (-4)) := by
  rw [ch_wn hA h c hl hl2 n m i q h1 h2 hi e hq]
  have bk := fun e' => ch_bk hA h c hl hl2 e' m i q h2 hi e hq
  generalize wnY N m q = W at bk ⊢
  by_cases d : y = Int32.ofInt (-1)
  · rw [if_pos d, if_pos d]
  rw [if_neg d, if_neg d]
  by_cases d2 : y < nI W
  · rw [if_pos d2, if_pos d2]
    by_cases w0 : W = 0
    · have y0 : y < nI 0 := by rw [w0] at d2; exact d2
      exact absurd (low_m1 d c3) (fun z => z y0)
    · rw [(bk (W - 1 - y.toNatClampNeg) (by omega)).2]
  · rw [if_neg d2, if_neg d2]
theorem skF_60 {v : Nat} (K : Nat) : ∀ n i (M : mv_Mem), (skF 57 3 v K n i M).2 60 = M 60
  | 0, _, _ => rfl
  | n + 1, i, M => by
    unfold skF
    split
    · split
      · rfl
      · rw [skF_60 K n, skI_o (by decide) (by decide) (by decide)]
    · rfl
theorem sk60 {X : mv_Mem} {T v : Nat} : (skM X 57 3 T v).2 60 = tsF X 57 3 (nX X) (X 3 1).toNatClampNeg 60 := by
  unfold skM slM nX
  rw [skF_60, enM_out (by decide) (by decide) (by decide), q_upO (by decide), fiM_out (by decide)]
