/-! sums of tops, rows shown, amiss -/
def plK (n x y : Nat) : Nat := (x ^^^ y) ^^^ (((x &&& y) &&& mk_4 n) * 2)
theorem pl4 : ∀ u v : Fin 4, (u.1 ^^^ v.1) < 4 ∧ (u.1 &&& v.1) < 4 ∧ ((u.1 &&& v.1) &&& 1) * 2 < 4 ∧ (u.1 ^^^ v.1) ^^^ (((u.1 &&& v.1) &&& 1) * 2) = (u.1 + v.1) % 4 := by decide
theorem plK_up {n u v x y : Nat} (hu : u < 4) (hv : v < 4) : plK (n + 1) (u + 4 * x) (v + 4 * y) = (u + v) % 4 + 4 * plK n x y := by
  obtain ⟨a1, a2, a3, a4⟩ := pl4 ⟨u, hu⟩ ⟨v, hv⟩
  dsimp only at a1 a2 a3 a4
  unfold plK
  rw [show mk_4 (n + 1) = 1 + 4 * mk_4 n from rfl, xor4 hu hv, and4 hu hv, and4 a2 (by decide), show (((u &&& v) &&& 1) + 4 * ((x &&& y) &&& mk_4 n)) * 2 = ((u &&& v) &&& 1) * 2 + 4 * (((x &&& y) &&& mk_4 n) * 2) by omega, xor4 a1 a3, a4]
theorem ad_pl : ∀ n {x y : Nat}, x < 4 ^ n → y < 4 ^ n → adK n x y = plK n x y
  | 0, x, y, hx, hy => by
    have a : x = 0 := by have : 4 ^ 0 = 1 := rfl; omega
    have b : y = 0 := by have : 4 ^ 0 = 1 := rfl; omega
    subst a; subst b
    decide
  | n + 1, x, y, hx, hy => by
    rw [Nat.pow_succ] at hx hy
    have ex : x = x % 4 + 4 * (x / 4) := by omega
    have ey : y = y % 4 + 4 * (y / 4) := by omega
    rw [ex, ey, adK_up (by omega) (by omega), plK_up (by omega) (by omega), ad_pl n (by omega) (by omega)]
theorem adN_pl {a b : Nat} (ha : a < 4096) (hb : b < 4096) : adN a b = plN a b := ad_pl 6 ha hb
/-- the colours of a row as a plain number -/
def clN (g : Nat → Int32) : Nat → Nat
  | 0 => 0
  | t + 1 => clN g t * 10 + (g t).toNatClampNeg
theorem clF_N {g : Nat → Int32} : ∀ n, n ≤ 6 → (∀ t, t < n → ∃ d, d < 10 ∧ g t = nI d) → clF g n = nI (clN g n) ∧ clN g n < 10 ^ n
  | 0, _, _ => ⟨rfl, by show 0 < 1; decide⟩
  | n + 1, hn, h => by
    obtain ⟨i1, i2⟩ := clF_N n (by omega) (fun t ht => h t (by omega))
    obtain ⟨d, hd, e⟩ := h n (by omega)
    have t := ten_n (n := n) (by omega)
    unfold clF clN
    rw [i1, e, q_mul, q_add, q_cl (by omega), Nat.pow_succ]
    exact ⟨rfl, by omega⟩
theorem shF_N {g : Nat → Int32} : ∀ n, n ≤ 6 → (∀ t, t < n → ∃ d, d < 10 ∧ g t = nI d) → ∀ v, (shF g n v = 1 ↔ v = clN g n)
  | 0, _, _, v => by
    unfold shF clN
    by_cases c : v = 0
    · rw [if_pos c]; exact ⟨fun _ => c, fun _ => rfl⟩
    · rw [if_neg c]; exact ⟨fun y => absurd y (by decide), fun y => absurd y c⟩
  | n + 1, hn, h, v => by
    obtain ⟨d, hd, e⟩ := h n (by omega)
    have ih := shF_N n (by omega) (fun t ht => h t (by omega)) (v / 10)
    unfold shF clN
    rw [e, q_cl (by omega)]
    by_cases c : d = v % 10
    · rw [if_pos (by rw [c]), ih]
      constructor
      · intro y; omega
      · intro y; omega
    · rw [if_neg (fun y => c (nI_inj y (by omega) (by omega)))]
      constructor
      · intro y; exact absurd y (by decide)
      · intro y; omega
section
variable {k : Nat} {X N : mv_Mem}
theorem RR.dg (h : RR k X N) (x : Int32) : ∀ t, t < nX X → (∃ d, d < 10 ∧ X (3 + 3) (t * 4 + (hlF x t).toNatClampNeg) = nI d) ∧ X (3 + 3) (t * 4 + (hlF x t).toNatClampNeg) = N 3 (4 * t + (hlF x t).toNatClampNeg) := by
  intro t ht
  obtain ⟨hh, h4, e⟩ := hlF_lt x t
  rw [e, q_cl (by omega)]
  have n6 := h.n6.1
  exact ⟨h.lo.1.2.2.2.2.2.2.1 _ (by omega), (h.lo.2.2.2.2.2.2.2.2.2.1 t hh ht h4).1⟩
/-- the class's 'shows' is the model's colours of a row -/
theorem sh_iff (h : RR k X N) {x v : Nat} (hv : v < 10 ^ nX X) : shB X 3 (nI x) v = 1 ↔ shY N x (nX X) = nI v := by
  have n6 := h.n6.1
  have d := h.dg (nI x)
  have e : shY N x (nX X) = clF (fun t => X (3 + 3) (t * 4 + (hlF (nI x) t).toNatClampNeg)) (nX X) := clF_cong _ (fun t ht => (d t ht).2.symm)
  have t10 := ten_n n6
  rw [e]
  obtain ⟨c1, c2⟩ := clF_N (g := fun t => X (3 + 3) (t * 4 + (hlF (nI x) t).toNatClampNeg)) (nX X) n6 (fun t ht => (d t ht).1)
  have s := shF_N (g := fun t => X (3 + 3) (t * 4 + (hlF (nI x) t).toNatClampNeg)) (nX X) n6 (fun t ht => (d t ht).1) v
  show shF (fun t => X (3 + 3) (t * 4 + (hlF (nI x) t).toNatClampNeg)) (nX X) v = 1 ↔ _
  rw [s, c1]
  constructor
  · intro y; rw [y]
  · intro y; exact (nI_inj y (by omega) (by omega)).symm
theorem lh_s16 (h : RR k X N) {s : Nat} (hs : s < 4 ^ nX X) : lhM N 16 s = shY N s (nX X) := by
  unfold lhM
  rw [h.n6.2.2.2, loF_16 _ hs]
  unfold shY
  have e3 : adF (lhA N) (nX X) (2 * (N 0 7).toNatClampNeg) 3 = N 3 := by
    rw [adF_out (by decide)]
    unfold lhA
    rw [q_upO (by decide)]
  rw [e3]
theorem RR_lh (h : RR k X N) : RR k X (lhM N) := by
  refine RR_scr h (fun _ _ => rfl) h.st (fun b hb => lhM_out (by omega) (by omega) (by omega) (by omega)) (fun j hj => lhM_0 (by omega)) (fun j hj => by rw [lhM_out (by decide) (by decide) (by decide) (by decide)])
theorem pw (q : Fin 4) (t : Fin 6) : nI q.1 <<< (nI (2 * t.1) &&& 31) = nI (q.1 <<< (2 * t.1)) ∧ q.1 <<< (2 * t.1) < 4096 := by
  have a := sh_top q t
  exact a
theorem or64 : ∀ t : Fin 6, nI 1 <<< (nI (t.1 + 6) &&& 31) = nI 64 <<< (nI t.1 &&& 31) := by decide +kernel
theorem q4n {q t n : Nat} (hq : q < 4) (ht : t < n) : q <<< (2 * t) < 4 ^ n := by
  rw [Nat.shiftLeft_eq, ← four_two]
  have a : 4 ^ (t + 1) ≤ 4 ^ n := Nat.pow_le_pow_right (by decide) (by omega)
  rw [Nat.pow_succ] at a
  have b : q * 4 ^ t ≤ 3 * 4 ^ t := Nat.mul_le_mul_right _ (by omega)
  have c : 0 < 4 ^ t := Nat.pow_pos (by decide)
  omega
theorem am_eq (h : RR k X N) {T v : Nat} (hT : T < 4 ^ nX X) (hv : v < 10 ^ nX X) : ∀ n, n ≤ nX X → amF X (nI T) v n = amW (lhM N) (nI v) T n
  | 0, _ => rfl
  | t + 1, ht => by
    have n6 := h.n6.1
    have ih := am_eq h hT hv t (by omega)
    have p4 := p4_le n6
    have one : ∀ q, q < 4 → (shB X 3 (adT (nI T) (nI q <<< (nI (2 * t) &&& 31))) v = 1 ↔ lhM N 16 (plN T (q <<< (2 * t))) = nI v) := fun q hq => by
      have a := (pw ⟨q, hq⟩ ⟨t, by omega⟩).1
      dsimp only at a
      have l := q4n hq (show t < nX X by omega)
      rw [a, adT_N, adN_pl (by omega) (by omega), sh_iff h hv, lh_s16 h (plN_lt n6 hT l)]
    have o3 := one 3 (by decide)
    have o1 := one 1 (by decide)
    have o64 := or64 ⟨t, by omega⟩
    dsimp only at o64
    unfold amF amW amH amG
    rw [ih, o64]
    simp only [o3, o1]
end
theorem tw_amiss (x : Int32) : twn 75 172 [.ref 0, .int x] := by
  apply twn_of
  intro k sx sn X N hk ox om hR
  have n6 := hR.n6
  have t10 := ten_n n6.1
  obtain ⟨et, T, hT, hT2, eT⟩ := hR.tops
  by_cases c1 : x < nI 0
  · refine ⟨Int32.ofInt (-1), X, N, fun Q hQ => ?_, fun Q hQ => ?_, hR.up⟩
    · rw [eS75]; exact ⟨x, rfl, ⟨ox, hR.x30⟩, Qe hQ (if_pos c1) rfl⟩
    · rw [eS172]; exact ⟨x, rfl, ⟨om, hR.gm, hR.cy⟩, Qe hQ (if_pos c1) (if_pos c1)⟩
  by_cases c2 : nI (10 ^ nX X) ≤ x
  · refine ⟨Int32.ofInt (-1), X, N, fun Q hQ => ?_, fun Q hQ => ?_, hR.up⟩
    · rw [eS75]; exact ⟨x, rfl, ⟨ox, hR.x30⟩, Qe hQ ((if_neg c1).trans (if_pos c2)) rfl⟩
    · rw [eS172]; refine ⟨x, rfl, ⟨om, hR.gm, hR.cy⟩, ?_⟩; rw [n6.2.2.2]; exact Qe hQ ((if_neg c1).trans (if_pos c2)) ((if_neg c1).trans (if_pos c2))
  obtain ⟨v, hv, rfl, -, ev, -⟩ := pk_mu c1 c2 (by omega)
  have am := am_eq hR hT hv (nX X) (Nat.le_refl _)
  refine ⟨amF X (tpX X 18) v (nX X), X, lhM N, fun Q hQ => ?_, fun Q hQ => ?_, (RR_lh hR).up⟩
  · rw [eS75]
    refine ⟨nI v, rfl, ⟨ox, hR.x30⟩, ?_⟩
    rw [ev]
    exact Qe hQ ((if_neg c1).trans (if_neg c2)) rfl
  · rw [eS172]
    refine ⟨nI v, rfl, ⟨om, hR.gm, hR.cy⟩, ?_⟩
    rw [n6.2.2.2, eT, q_cl (by omega)]
    rw [et, eT, am] at hQ
    exact Qe hQ ((if_neg c1).trans (if_neg c2)) ((if_neg c1).trans (if_neg c2))
