/-! the two searches in step -/
theorem mkV_N {h s : Nat} (hh : h < 4096) (hs : s < 16) : mkV h s = nI (1 + (16 * h + s)) := by
  unfold mkV
  rw [pk_shlN (n := h) _ 4 (by decide) (by omega), nI_orN, ← q_add]
  congr 2
  have := Nat.shiftLeft_add_eq_or_of_lt (b := s) (i := 4) (by omega) h
  rw [Nat.shiftLeft_eq] at this
  rw [show h * 2 ^ 4 ||| s = h * 2 ^ 4 + s from this.symm]
  omega
def mkR (M N : mv_Mem) (q : Nat) : Prop := (N 20 q < nI 0 ∧ M 59 q = nI 0) ∨ (¬ N 20 q < nI 0 ∧ N 19 q = Int32.ofInt (-4) ∧ M 59 q = Int32.ofInt (-1)) ∨ (¬ N 20 q < nI 0 ∧ ∃ h s, h < 4096 ∧ s < 12 ∧ N 19 q = nI h ∧ N 20 q = nI s ∧ M 59 q = mkV h s)
def BI (A : Nat) (M N : mv_Mem) : Prop := (∃ c, c ≤ 4096 ∧ M 57 3 = nI c ∧ N 0 36 = nI c ∧ ∀ i, i < c → M 58 i = N 21 i) ∧ ∀ q, q < A → mkR M N q
theorem mkR_z {M N : mv_Mem} {q : Nat} (h : mkR M N q) : M 59 q = nI 0 ↔ N 20 q < nI 0 := by
  rcases h with ⟨a, b⟩ | ⟨a, b, c⟩ | ⟨a, h, s, h1, h2, b, c, d⟩
  · exact ⟨fun _ => a, fun _ => b⟩
  · exact ⟨fun y => absurd (c.symm.trans y) (by decide), fun y => absurd y a⟩
  · refine ⟨fun y => ?_, fun y => absurd y a⟩
    rw [d, mkV_N h1 (by omega)] at y
    have := nI_inj y (by omega) (by decide)
    omega
theorem en_co {A nP q : Nat} {M N : mv_Mem} {v f b : Int32} (h : BI A M N) (g : gS N A nP) (gi : gI N A) (hq : q < A) (hv : (f = Int32.ofInt (-4) ∧ ¬ b < nI 0 ∧ v = Int32.ofInt (-1)) ∨ ∃ h s, h < 4096 ∧ s < 12 ∧ f = nI h ∧ b = nI s ∧ v = mkV h s) : BI A (enM M 57 q v) (coM N q f b) := by
  obtain ⟨⟨c, hc, m3, n36, hl⟩, hm⟩ := h
  have z := mkR_z (hm q hq)
  by_cases y : N 20 q < nI 0
  · obtain ⟨l, hl1, hl2, hl3⟩ := gI_pre g gi hq
    obtain rfl : l = c := nI_inj (hl2.symm.trans n36) (by omega) (by omega)
    have l4 := hl3 y
    have e1 : enM M 57 q v = mv_up (mv_up (mv_up M 59 q v) 58 l (nI q)) 57 3 (nI (l + 1)) := by
      unfold enM
      rw [show (57 + 2 : Nat) = 59 from rfl, show (57 + 1 : Nat) = 58 from rfl, if_pos (z.mpr y), m3, q_cl (by omega), if_neg (by omega)]
    have e2 : coM N q f b = mv_up (mv_up (mv_up (mv_up N 20 q b) 19 q f) 21 l (nI q)) 0 36 (nI (l + 1)) := by
      unfold coM
      rw [if_pos y, n36, q_cl (by omega)]
    rw [e1, e2]
    refine ⟨⟨l + 1, by omega, q_upS, q_upS, fun i hi => ?_⟩, fun p hp => ?_⟩
    · rw [q_upO (show ¬ (58 : Nat) = 57 by decide), q_upO (show ¬ (21 : Nat) = 0 by decide)]
      by_cases w : i = l
      · subst w; rw [q_upS, q_upS]
      · simp (disch := omega) only [q_upN]
        exact hl i (by omega)
    · unfold mkR
      rw [q_upO (show ¬ (20 : Nat) = 0 by decide), q_upO (show ¬ (20 : Nat) = 21 by decide), q_upO (show ¬ (20 : Nat) = 19 by decide), q_upO (show ¬ (19 : Nat) = 0 by decide), q_upO (show ¬ (19 : Nat) = 21 by decide), q_upO (show ¬ (59 : Nat) = 57 by decide), q_upO (show ¬ (59 : Nat) = 58 by decide)]
      by_cases w : p = q
      · subst w
        rw [q_upS, q_upS, q_upS]
        rcases hv with ⟨a1, a2, a3⟩ | ⟨hh, s, h1, h2, a1, a2, a3⟩
        · exact Or.inr (Or.inl ⟨a2, a1, a3⟩)
        · refine Or.inr (Or.inr ⟨?_, hh, s, h1, h2, a1, a2, a3⟩)
          rw [a2]
          exact nI_pos (by omega)
      · simp (disch := omega) only [q_upN]
        exact hm p hp
  · have e1 : enM M 57 q v = M := by
      unfold enM
      exact if_neg (fun w => y (z.mp w))
    have e2 : coM N q f b = N := by
      unfold coM
      exact if_neg y
    rw [e1, e2]
    exact ⟨⟨c, hc, m3, n36, hl⟩, hm⟩
theorem bit_all : ∀ (nP : Fin 7) (s : Fin 12), s.1 < 2 * nP.1 → (nI (2 ^ nP.1 - 1)) >>> (nI (s.1 / 2) &&& 31) &&& nI 1 = nI 1 := by decide +kernel
theorem sk_gf {A nP x : Nat} (hx : x < A) (h6 : nP ≤ 6) : ∀ n s {M N : mv_Mem}, s + n = 2 * nP → BI A M N → gS N A nP → gI N A → (∀ s, s < 2 * nP → M 60 s = N 15 s) → BI A (skI 57 x n s M) (gfF x (nI (2 ^ nP - 1)) n s N)
  | 0, s, M, N, _, h, _, _, _ => h
  | n + 1, s, M, N, hs, h, g, gi, h60 => by
    have hA := gS_A g
    have g2 := g
    obtain ⟨-, ⟨m, hm6, eA⟩, -, -, g5⟩ := g2
    obtain ⟨st, hst, est⟩ := g5 s (by omega)
    have b := bit_all ⟨nP, by omega⟩ ⟨s, by omega⟩ (by show s < 2 * nP; omega)
    dsimp only at b
    have pl : plN x st < A := by rw [eA] at hx hst ⊢; exact plN_lt hm6 hx hst
    unfold skI gfF
    rw [if_pos b, show M (57 + 3) s = nI st from (h60 s (by omega)).trans est, est, q_cl (by omega), adN_pl (by omega) (by omega)]
    refine sk_gf hx h6 n (s + 1) (by omega) (en_co h g gi pl (Or.inr ⟨x, s, by omega, by omega, rfl, rfl, rfl⟩)) (gS_co g) (gI_co g gi pl (nI_pos (by omega))) (fun s hs => ?_)
    rw [enM_out (by decide) (by decide) (by decide), coM_out (by decide) (by decide) (by decide) (by decide)]
    exact h60 s hs
