/-! the holes on top as a number -/
def tpN (h : Nat → Nat) : Nat → Nat
  | 0 => 0
  | t + 1 => tpN h t + h t * 4 ^ t
theorem four_two (n : Nat) : (4 : Nat) ^ n = 2 ^ (2 * n) := by rw [Nat.pow_mul]
theorem or_add {T q n : Nat} (h : T < 4 ^ n) : T ||| q <<< (2 * n) = T + q * 4 ^ n := by
  rw [four_two] at h ⊢
  rw [Nat.or_comm, ← Nat.shiftLeft_add_eq_or_of_lt h, Nat.shiftLeft_eq, Nat.add_comm]
theorem tpN_lt {h : Nat → Nat} : ∀ n, (∀ t, t < n → h t < 4) → tpN h n < 4 ^ n
  | 0, _ => by show 0 < 1; decide
  | n + 1, hh => by
    have ih := tpN_lt n (fun t ht => hh t (by omega))
    have := hh n (by omega)
    unfold tpN
    rw [Nat.pow_succ]
    have m : h n * 4 ^ n ≤ 3 * 4 ^ n := Nat.mul_le_mul_right _ (by omega)
    omega
theorem p4_le {n : Nat} (h : n ≤ 6) : 4 ^ n ≤ 4096 := Nat.pow_le_pow_right (n := 4) (by decide) h
theorem tpF_N {g : Nat → Int32} {h : Nat → Nat} : ∀ n, n ≤ 6 → (∀ t, t < n → h t < 4 ∧ g t = nI (h t)) → tpF g n = nI (tpN h n)
  | 0, _, _ => rfl
  | n + 1, hn, hh => by
    have ih := tpF_N n (by omega) (fun t ht => hh t (by omega))
    have lt := tpN_lt (h := h) n (fun t ht => (hh t (by omega)).1)
    obtain ⟨h1, h2⟩ := hh n (by omega)
    unfold tpF tpN
    have := (sh_t4 ⟨h n, h1⟩ ⟨n, by omega⟩).1
    dsimp only at this
    rw [ih, h2, this, nI_orN, or_add lt]
theorem sm6 : ∀ t : Fin 6, ((nI (2 * t.1) &&& 31).toBitVec.smod 32).toNat = 2 * t.1 := by decide +kernel
theorem hlF_N {x t : Nat} (hx : x < 2147483648) (ht : t < 6) : hlF (nI x) t = nI (x / 4 ^ t % 4) := by
  unfold hlF
  rw [pk_shrN hx _ (2 * t) (sm6 ⟨t, ht⟩), pk_andN (Nat.lt_of_le_of_lt (Nat.div_le_self _ _) (by omega)) 2 (by decide), ← four_two]
theorem tpN_at {h : Nat → Nat} {t : Nat} : ∀ n, (∀ t, t < n → h t < 4) → t < n → tpN h n / 4 ^ t % 4 = h t
  | 0, _, ht => absurd ht (by omega)
  | n + 1, hh, ht => by
    have lt := tpN_lt (h := h) n (fun t ht => hh t (by omega))
    have h4 := hh n (by omega)
    unfold tpN
    by_cases c : t = n
    · subst c
      rw [Nat.add_mul_div_right _ _ (Nat.pow_pos (by decide)), Nat.div_eq_of_lt lt, Nat.zero_add, Nat.mod_eq_of_lt h4]
    · have ih := tpN_at (t := t) n (fun t ht => hh t (by omega)) (by omega)
      have e : 4 ^ n = 4 ^ t * (4 * 4 ^ (n - t - 1)) := by
        rw [← Nat.mul_assoc, ← Nat.pow_succ, ← Nat.pow_add]
        congr 1
        omega
      rw [e, show h n * (4 ^ t * (4 * 4 ^ (n - t - 1))) = 4 ^ t * (4 * (h n * 4 ^ (n - t - 1))) by rw [Nat.mul_left_comm, Nat.mul_left_comm (h n) 4], Nat.add_mul_div_left _ _ (Nat.pow_pos (by decide)), Nat.add_mul_mod_self_left]
      exact ih
theorem tpN_zero {h : Nat → Nat} {n : Nat} : ∀ d, (∀ t, n ≤ t → h t = 0) → tpN h (n + d) = tpN h n
  | 0, _ => rfl
  | d + 1, hh => by
    rw [← Nat.add_assoc, show tpN h (n + d + 1) = tpN h (n + d) + h (n + d) * 4 ^ (n + d) from rfl, tpN_zero d hh, hh (n + d) (by omega), Nat.zero_mul, Nat.add_zero]
theorem clF_cong {f g : Nat → Int32} : ∀ n, (∀ t, t < n → f t = g t) → clF f n = clF g n
  | 0, _ => rfl
  | n + 1, h => by
    unfold clF
    rw [clF_cong n (fun t ht => h t (by omega)), h n (by omega)]
theorem tpF_cong {f g : Nat → Int32} : ∀ n, (∀ t, t < n → f t = g t) → tpF f n = tpF g n
  | 0, _ => rfl
  | n + 1, h => by
    unfold tpF
    rw [tpF_cong n (fun t ht => h t (by omega)), h n (by omega)]
/-- the holes of a cloth as plain numbers -/
def hoN (n : Nat) (G : Nat → Int32) (t : Nat) : Nat := if t < n then (G (6 + t)).toNatClampNeg else 0
section
variable {n : Nat} {F G : Nat → Int32}
theorem fig_ho (h : figR n F G) (hn : n ≤ 6) : (∀ t, hoN n G t < 4) ∧ (∀ t, t < n → G (6 + t) = nI (hoN n G t)) ∧ (∀ t, t < 6 → F (t * 5 + 0) = nI (hoN n G t)) ∧ ∀ t, n ≤ t → hoN n G t = 0 := by
  have a : ∀ t, t < n → ∃ w, w < 4 ∧ G (6 + t) = nI w ∧ hoN n G t = w := fun t ht => by
    obtain ⟨w, hw, e⟩ := (h.1 t ht).2.1.2
    exact ⟨w, hw, e, by unfold hoN; rw [if_pos ht, e, q_cl (by omega)]⟩
  have b : ∀ t, n ≤ t → hoN n G t = 0 := fun t ht => by unfold hoN; rw [if_neg (by omega)]
  refine ⟨fun t => ?_, fun t ht => ?_, fun t ht => ?_, b⟩
  · by_cases c : t < n
    · obtain ⟨w, hw, -, e⟩ := a t c; omega
    · rw [b t (by omega)]; decide
  · obtain ⟨w, hw, e, e2⟩ := a t ht; rw [e, e2]
  · by_cases c : t < n
    · obtain ⟨w, hw, e, e2⟩ := a t c; rw [(h.1 t c).2.1.1, e, e2]
    · rw [h.2 t (by omega) ht, b t (by omega)]
theorem fig_tops (h : figR n F G) (hn : n ≤ 6) : tpF (fun t => F (t * 5 + 0)) 6 = nI (tpN (hoN n G) n) ∧ tpF (fun t => G (6 + t)) n = nI (tpN (hoN n G) n) ∧ tpN (hoN n G) n < 4 ^ n := by
  obtain ⟨a, b, c, d⟩ := fig_ho h hn
  refine ⟨?_, tpF_N n hn (fun t ht => ⟨a t, b t ht⟩), tpN_lt n (fun t _ => a t)⟩
  rw [tpF_N (h := hoN n G) 6 (Nat.le_refl _) (fun t ht => ⟨a t, c t ht⟩)]
  have := tpN_zero (h := hoN n G) (n := n) (6 - n) d
  rw [show n + (6 - n) = 6 by omega] at this
  rw [this]
theorem fig_hl (h : figR n F G) (hn : n ≤ 6) {t : Nat} (ht : t < n) : hlF (tpF (fun t => F (t * 5 + 0)) 6) t = G (6 + t) := by
  obtain ⟨a, b, c, d⟩ := fig_ho h hn
  obtain ⟨e, -, l⟩ := fig_tops h hn
  have := p4_le hn
  rw [e, hlF_N (by omega) (by omega), tpN_at n (fun t _ => a t) ht, b t ht]
end
section
variable {k : Nat} {X N : mv_Mem}
theorem lo_co (h : RR k X N) {c b : Nat} {M N' : mv_Mem} (e3 : M 3 0 = X 3 0) (e6 : M 6 = X 6) (f3 : N' 3 = N 3) (f0 : N' 0 3 = N 0 3) (hf : figR (nX X) (M (c + 1)) (fun j => N' 1 (b + j))) : clX M 3 (tpX M c) = coY N' b := by
  unfold clX coY
  rw [e3, f0, h.n6.2.2.2]
  refine clF_cong _ (fun t ht => ?_)
  unfold tpX coG
  have e := fig_hl hf h.n6.1 ht
  obtain ⟨w, hw, e2⟩ := (hf.1 t ht).2.1.2
  dsimp only at e e2 ⊢
  rw [e, ← Nat.add_assoc] at *
  rw [e2, q_cl (by omega), f3]
  show M 6 (t * 4 + w) = _
  rw [e6]
  exact (h.lo.2.2.2.2.2.2.2.2.2.1 t w ht hw).1
theorem lo_sn {c b n : Nat} {M N' : mv_Mem} (hf : figR n (M (c + 1)) (fun j => N' 1 (b + j))) : slF (snF M c) n = slF (snY N' b) n := slF_cong n (fun t ht => fg_sn (hf.1 t ht))
theorem RR.tops (h : RR k X N) : tpX X 18 = hnY N ∧ ∃ T, T < 4 ^ nX X ∧ T < 4096 ∧ hnY N = nI T := by
  obtain ⟨a, b, c⟩ := fig_tops h.cl.1 h.n6.1
  simp only [Nat.zero_add] at a b c
  have := p4_le h.n6.1
  unfold tpX hnY
  rw [h.n6.2.2.2]
  exact ⟨a.trans b.symm, _, c, by omega, b⟩
end
theorem tw_top (x : Int32) : twn 128 207 [.ref 0, .int x] := by
  apply twn_rd
  intro k sx sn X N hk ox om hR
  apply Exists.intro
  apply And.intro
  · intro Q hQ
    rw [eS128]
    exact ⟨x, rfl, ⟨ox, hR.x30⟩, hQ⟩
  · intro Q hQ
    rw [eS207]
    refine ⟨x, rfl, ⟨om, hR.y3, hR.cy⟩, Qe hQ ?_ rfl⟩
    rw [lo_co hR (c := 18) (b := 0) rfl rfl rfl rfl hR.cl.1, hR.n6.2.2.2]
    show (if x = nI 0 then _ else if x = nI 1 then _ else _) = (if x = nI 0 then _ else if x = nI 1 then slF (snF X 18) (nX X) else _)
    rw [lo_sn hR.cl.1]
