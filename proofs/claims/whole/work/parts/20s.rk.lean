theorem skI_o {x b : Nat} (h1 : ¬ b = 57) (h2 : ¬ b = 58) (h3 : ¬ b = 59) : ∀ n s (M : mv_Mem), skI 57 x n s M b = M b
  | 0, _, _ => rfl
  | n + 1, s, M => by
    unfold skI
    rw [skI_o h1 h2 h3 n, enM_out h1 h2 h3]
theorem sk_gt {A nP v : Nat} (h6 : nP ≤ 6) : ∀ n i {M N : mv_Mem}, i + n = 4096 → BI A M N → gS N A nP → gI N A → (∀ s, s < 2 * nP → M 60 s = N 15 s) → (∀ q, q < A → (shB M 3 (nI q) v = 1 ↔ N 16 q = nI v)) →
    (((skF 57 3 v (2 * nP) n i M).1 = Int32.ofInt (-1) ∧ (gtF (nI v) (nI (2 ^ nP - 1)) (n + 1) i N).1 = Int32.ofInt (-4)) ∨ ∃ q, q < A ∧ (skF 57 3 v (2 * nP) n i M).1 = nI q ∧ (gtF (nI v) (nI (2 ^ nP - 1)) (n + 1) i N).1 = nI q) ∧ BI A (skF 57 3 v (2 * nP) n i M).2 (gtF (nI v) (nI (2 ^ nP - 1)) (n + 1) i N).2
  | 0, i, M, N, hi, h, g, gi, h60, hs => by
    obtain ⟨⟨c, hc, m3, n36, hl⟩, hm⟩ := id h
    have e : gtF (nI v) (nI (2 ^ nP - 1)) (0 + 1) i N = (Int32.ofInt (-4), N) := by
      rw [gtF, n36, q_cl (by omega), if_neg (by omega)]
    rw [e]
    exact ⟨Or.inl ⟨rfl, rfl⟩, h⟩
  | n + 1, i, M, N, hi, h, g, gi, h60, hs => by
    obtain ⟨⟨c, hc, m3, n36, hl⟩, hm⟩ := id h
    have hA := gS_A g
    rw [skF, gtF, m3, n36, q_cl (by omega)]
    by_cases y : i < c
    · rw [if_pos y, if_pos y]
      obtain ⟨l, hl1, hl2, hl3⟩ := gi
      obtain rfl : l = c := by
        have lA : l ≤ A := by
          rw [← hl2]
          exact mtF_le N A
        exact nI_inj (hl1.symm.trans n36) (by omega) (by omega)
      obtain ⟨q, hq, eq⟩ := hl3 i y
      have em : M (57 + 1) i = nI q := (hl i y).trans eq
      rw [em, eq, q_cl (by omega)]
      by_cases z : shB M 3 (nI q) v = 1
      · rw [if_pos z, if_pos ((hs q hq).mp z)]
        exact ⟨Or.inr ⟨q, hq, rfl, rfl⟩, h⟩
      · rw [if_neg z, if_neg (fun w => z ((hs q hq).mpr w))]
        have e7 : (N 0 7).toNatClampNeg = nP := by rw [g.2.2.1, q_cl (by omega)]
        unfold gfM
        rw [e7]
        have gi' : gI N A := ⟨l, hl1, hl2, hl3⟩
        have nx := sk_gf hq h6 (2 * nP) 0 (by omega) h g gi' h60
        obtain ⟨g', gi2⟩ := gIS_gf (y := nI (2 ^ nP - 1)) hq (2 * nP) 0 N (by omega) g gi'
        refine sk_gt h6 n (i + 1) (by omega) nx g' gi2 (fun s hs => ?_) (fun p hp => ?_)
        · rw [skI_o (by decide) (by decide) (by decide), gfF_out (by decide) (by decide) (by decide) (by decide)]
          exact h60 s hs
        · rw [gfF_out (by decide) (by decide) (by decide) (by decide)]
          unfold shB
          rw [skI_o (by decide) (by decide) (by decide), skI_o (by decide) (by decide) (by decide)]
          exact hs p hp
    · rw [if_neg y, if_neg y]
      exact ⟨Or.inl ⟨rfl, rfl⟩, h⟩
section
variable {k : Nat} {X N : mv_Mem}
/-- the class's table of steps is the model's -/
theorem ts_st (h : RR k X N) {nP : Nat} (hP : (X 3 1).toNatClampNeg = nP) : ∀ m, m ≤ nP → ∀ s, s < 2 * m → tsF X 57 3 (nX X) m 60 s = lhM N 15 s
  | 0, _, s, hs => absurd hs (by omega)
  | m + 1, hm, s, hs => by
    have ih := ts_st h hP m (by omega)
    have n6 := h.n6
    have e7 : (N 0 7).toNatClampNeg = nP := by rw [← h.lo.2.2.2.1]; exact hP
    have st : ∀ w, w < 2 → ∀ n, n ≤ nX X → stF X 3 m w n = stY N m w n := by
      intro w hw n
      induction n with
      | zero => intro _; rfl
      | succ n ihn =>
        intro hn
        unfold stF stY
        rw [ihn (by omega), show X (3 + 5) m = N 5 m from h.lo.2.2.2.2.2.2.2.2.2.2.1 m (by omega), show X (3 + 1) n = N 2 n from (h.k4 n (by omega)).2]
    unfold tsF
    rw [show (57 + 3 : Nat) = 60 from rfl]
    by_cases c1 : s = 2 * m + 1
    · subst c1
      rw [q_upS, st 1 (by decide) _ (Nat.le_refl _), lh_15 (by omega), n6.2.2.2, show (2 * m + 1) / 2 = m by omega, show (2 * m + 1) % 2 = 1 by omega]
    · rw [q_upN (by omega)]
      by_cases c0 : s = 2 * m
      · subst c0
        rw [q_upS, st 0 (by decide) _ (Nat.le_refl _), lh_15 (by omega), n6.2.2.2, show (2 * m) / 2 = m by omega, show (2 * m) % 2 = 0 by omega]
      · rw [q_upN (by omega)]
        exact ih s (by omega)
end
