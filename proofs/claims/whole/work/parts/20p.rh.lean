/-! round: sums of quarters mod 4, all tablets at once -/
theorem and4 {u v x y : Nat} (hu : u < 4) (hv : v < 4) : (u + 4 * x) &&& (v + 4 * y) = (u &&& v) + 4 * (x &&& y) := by
  have m := Nat.and_mod_two_pow (a := u + 4 * x) (b := v + 4 * y) (n := 2)
  have d := Nat.shiftRight_and_distrib (a := u + 4 * x) (b := v + 4 * y) (i := 2)
  rw [Nat.shiftRight_eq_div_pow, Nat.shiftRight_eq_div_pow, Nat.shiftRight_eq_div_pow] at d
  rw [show (2 : Nat) ^ 2 = 4 from rfl] at m d
  rw [show (u + 4 * x) % 4 = u by omega, show (v + 4 * y) % 4 = v by omega] at m
  rw [show (u + 4 * x) / 4 = x by omega, show (v + 4 * y) / 4 = y by omega] at d
  omega
theorem xor4 {u v x y : Nat} (hu : u < 4) (hv : v < 4) : (u + 4 * x) ^^^ (v + 4 * y) = (u ^^^ v) + 4 * (x ^^^ y) := by
  have m := Nat.xor_mod_two_pow (a := u + 4 * x) (b := v + 4 * y) (n := 2)
  have d := Nat.shiftRight_xor_distrib (a := u + 4 * x) (b := v + 4 * y) (i := 2)
  rw [Nat.shiftRight_eq_div_pow, Nat.shiftRight_eq_div_pow, Nat.shiftRight_eq_div_pow] at d
  rw [show (2 : Nat) ^ 2 = 4 from rfl] at m d
  rw [show (u + 4 * x) % 4 = u by omega, show (v + 4 * y) % 4 = v by omega] at m
  rw [show (u + 4 * x) / 4 = x by omega, show (v + 4 * y) / 4 = y by omega] at d
  omega
def mk_4 : Nat → Nat
  | 0 => 0
  | n + 1 => 1 + 4 * mk_4 n
def adK (n x y : Nat) : Nat := ((x &&& mk_4 n) + (y &&& mk_4 n)) ^^^ ((x ^^^ y) &&& (2 * mk_4 n))
theorem ad4 : ∀ u v : Fin 4, (u.1 &&& 1) + (v.1 &&& 1) < 4 ∧ (u.1 ^^^ v.1) < 4 ∧ ((u.1 ^^^ v.1) &&& 2) < 4 ∧ ((u.1 &&& 1) + (v.1 &&& 1)) ^^^ ((u.1 ^^^ v.1) &&& 2) = (u.1 + v.1) % 4 := by decide
theorem adK_up {n u v x y : Nat} (hu : u < 4) (hv : v < 4) : adK (n + 1) (u + 4 * x) (v + 4 * y) = (u + v) % 4 + 4 * adK n x y := by
  obtain ⟨a1, a2, a3, a4⟩ := ad4 ⟨u, hu⟩ ⟨v, hv⟩
  dsimp only at a1 a2 a3 a4
  unfold adK
  rw [show mk_4 (n + 1) = 1 + 4 * mk_4 n from rfl, and4 hu (by decide), and4 hv (by decide), xor4 hu hv, show 2 * (1 + 4 * mk_4 n) = 2 + 4 * (2 * mk_4 n) by omega, and4 a2 (by decide),
    show (u &&& 1) + 4 * (x &&& mk_4 n) + ((v &&& 1) + 4 * (y &&& mk_4 n)) = ((u &&& 1) + (v &&& 1)) + 4 * ((x &&& mk_4 n) + (y &&& mk_4 n)) by omega, xor4 a1 a3, a4]
theorem tpN_low (h : Nat → Nat) : ∀ n, tpN h (n + 1) = h 0 + 4 * tpN (fun t => h (t + 1)) n
  | 0 => by show 0 + h 0 * 1 = h 0 + 4 * 0; omega
  | n + 1 => by
    rw [show tpN h (n + 1 + 1) = tpN h (n + 1) + h (n + 1) * 4 ^ (n + 1) from rfl, tpN_low h n, show tpN (fun t => h (t + 1)) (n + 1) = tpN (fun t => h (t + 1)) n + h (n + 1) * 4 ^ n from rfl, Nat.pow_succ, Nat.mul_add, Nat.add_assoc]
    congr 2
    rw [Nat.mul_comm (4 ^ n) 4, Nat.mul_left_comm]
theorem adK_tp : ∀ n {a b : Nat → Nat}, (∀ t, a t < 4 ∧ b t < 4) → adK n (tpN a n) (tpN b n) = tpN (fun t => (a t + b t) % 4) n
  | 0, _, _, _ => by show adK 0 0 0 = 0; decide
  | n + 1, a, b, h => by
    rw [tpN_low a, tpN_low b, tpN_low, adK_up (h 0).1 (h 0).2, adK_tp n (fun t => h (t + 1))]
theorem adT_dg {a b : Nat → Nat} (h : ∀ t, a t < 4 ∧ b t < 4) : adT (nI (tpN a 6)) (nI (tpN b 6)) = nI (tpN (fun t => (a t + b t) % 4) 6) := by
  unfold adT
  rw [nI_andN, nI_andN, q_add, nI_xorN, nI_andN, nI_xorN, ← adK_tp 6 h]
  rfl
def dgt (x : Int32) : Nat := x.toBitVec.toNat % 4
theorem dgt_lt (x : Int32) : dgt x < 4 := Nat.mod_lt _ (by decide)
theorem and_dgt (x : Int32) : x &&& nI 3 = nI (dgt x) := pk_and x (m := nI 3) 2 (by decide)
theorem dgt_add (x y : Int32) : dgt (x + y) = (dgt x + dgt y) % 4 := by
  unfold dgt
  rw [Int32.toBitVec_add, BitVec.toNat_add]
  omega
def sg (X : mv_Mem) (nT p w t : Nat) : Nat := if t < nT ∧ X 8 p >>> (nI t &&& 31) &&& nI 1 = nI 1 then dgt (qf (X 4 t).toNatClampNeg w) else 0
theorem sg_lt (X : mv_Mem) (nT p w t : Nat) : sg X nT p w t < 4 := by
  unfold sg
  split
  · exact dgt_lt _
  · decide
theorem stF_N {X : mv_Mem} {nT p w : Nat} (h6 : nT ≤ 6) : ∀ n, n ≤ nT → stF X 3 p w n = nI (tpN (sg X nT p w) n)
  | 0, _ => rfl
  | n + 1, hn => by
    have ih := stF_N (X := X) (p := p) (w := w) h6 n (by omega)
    have lt := tpN_lt (h := sg X nT p w) n (fun t _ => sg_lt _ _ _ _ _)
    unfold stF tpN
    by_cases c : X (3 + 5) p >>> (nI n &&& 31) &&& nI 1 = nI 1
    · have e : sg X nT p w n = dgt (qf (X 4 n).toNatClampNeg w) := if_pos ⟨by omega, c⟩
      have hl := dgt_lt (qf (X 4 n).toNatClampNeg w)
      have := (sh_t4 ⟨_, hl⟩ ⟨n, by omega⟩).1
      dsimp only at this
      rw [if_pos c, ih, e, show X (3 + 1) n = X 4 n from rfl, and_dgt, this, nI_orN, or_add lt]
    · have e : sg X nT p w n = 0 := if_neg (fun y => c y.2)
      rw [if_neg c, ih, e, Nat.zero_mul, Nat.add_zero]
theorem sg6 {X : mv_Mem} {nT p w : Nat} (h6 : nT ≤ 6) : tpN (sg X nT p w) nT = tpN (sg X nT p w) 6 := by
  have := tpN_zero (h := sg X nT p w) (n := nT) (6 - nT) (fun t ht => if_neg (fun y => by omega))
  rw [show nT + (6 - nT) = 6 by omega] at this
  exact this.symm
def rg (X : mv_Mem) (nT : Nat) : Nat → Nat → Nat
  | 0, _ => 0
  | k + 1, t => (rg X nT k t + sg X nT ((X 9 k).toNatClampNeg / 10) ((X 9 k).toNatClampNeg % 10) t) % 4
theorem rg_lt (X : mv_Mem) (nT : Nat) : ∀ k t, rg X nT k t < 4
  | 0, _ => by show 0 < 4; decide
  | k + 1, t => Nat.mod_lt _ (by decide)
theorem rdF_N {X : mv_Mem} {nT : Nat} (h6 : nT ≤ 6) : ∀ k, rdF X nT k = nI (tpN (rg X nT k) 6)
  | 0 => by
    show nI 0 = nI (tpN (fun _ => 0) 6)
    rfl
  | k + 1 => by
    unfold rdF
    rw [rdF_N h6 k, stF_N h6 nT (Nat.le_refl _), sg6 h6, adT_dg (fun t => ⟨rg_lt _ _ _ _, sg_lt _ _ _ _ _⟩)]
    rfl
theorem tw_dgt {X : mv_Mem} {nT t : Nat} (ht : t < nT) : ∀ k, dgt (twF X t k) = rg X nT k t
  | 0 => by show dgt (nI 0) = 0; decide
  | k + 1 => by
    have ih := tw_dgt (X := X) ht k
    unfold twF rg sg
    by_cases c : X (3 + 5) ((X 9 k).toNatClampNeg / 10) >>> (nI t &&& 31) &&& nI 1 = nI 1
    · rw [if_pos c, if_pos ⟨ht, c⟩, dgt_add, ih]
    · rw [if_neg c, if_neg (fun y => c y.2), ih, Nat.add_zero, Nat.mod_eq_of_lt (rg_lt _ _ _ _)]
theorem rd_N {N : mv_Mem} {r : Nat → Nat} : ∀ n, (∀ t, t < n → r t < 4 ∧ twY N t (N 0 10).toNatClampNeg &&& nI 3 = nI (r t)) →
    (tpN r n = 0 → rdY N n = 1) ∧ (¬ tpN r n = 0 → tpN (fun t => (r t + r t) % 4) n = 0 → rdY N n = 2) ∧ (¬ tpN r n = 0 → ¬ tpN (fun t => (r t + r t) % 4) n = 0 → rdY N n = 4)
  | 0, _ => ⟨fun _ => rfl, fun h => absurd rfl h, fun h => absurd rfl h⟩
  | n + 1, h => by
    obtain ⟨i1, i2, i3⟩ := rd_N n (fun t ht => h t (by omega))
    obtain ⟨r4, er⟩ := h n (by omega)
    have p4 : 0 < 4 ^ n := Nat.pow_pos (by decide)
    have ow : owY N n = if r n = 0 then 1 else if r n = 2 then 2 else 4 := by
      unfold owY
      rw [er]
      by_cases a : r n = 0
      · rw [a]; rfl
      · by_cases b : r n = 2
        · rw [b]; rfl
        · rw [if_neg (fun y => a (nI_inj y (by omega) (by decide))), if_neg (fun y => b (nI_inj y (by omega) (by decide))), if_neg a, if_neg b]
    have z1 : tpN r (n + 1) = 0 ↔ tpN r n = 0 ∧ r n = 0 := by
      rw [show tpN r (n + 1) = tpN r n + r n * 4 ^ n from rfl, Nat.add_eq_zero_iff, Nat.mul_eq_zero]
      constructor
      · rintro ⟨a, b | b⟩
        · exact ⟨a, b⟩
        · omega
      · rintro ⟨a, b⟩
        exact ⟨a, Or.inl b⟩
    have z2 : tpN (fun t => (r t + r t) % 4) (n + 1) = 0 ↔ tpN (fun t => (r t + r t) % 4) n = 0 ∧ (r n + r n) % 4 = 0 := by
      rw [show tpN (fun t => (r t + r t) % 4) (n + 1) = tpN (fun t => (r t + r t) % 4) n + (r n + r n) % 4 * 4 ^ n from rfl, Nat.add_eq_zero_iff, Nat.mul_eq_zero]
      constructor
      · rintro ⟨a, b | b⟩
        · exact ⟨a, b⟩
        · omega
      · rintro ⟨a, b⟩
        exact ⟨a, Or.inl b⟩
    have z3 : tpN r n = 0 → tpN (fun t => (r t + r t) % 4) n = 0 := by
      intro a
      clear i1 i2 i3 z1 z2 ow er r4 p4
      induction n with
      | zero => rfl
      | succ m ih =>
        have p4 : 0 < 4 ^ m := Nat.pow_pos (by decide)
        rw [show tpN r (m + 1) = tpN r m + r m * 4 ^ m from rfl, Nat.add_eq_zero_iff, Nat.mul_eq_zero] at a
        obtain ⟨a1, a2⟩ := a
        have a3 : r m = 0 := by rcases a2 with y | y; exact y; omega
        rw [show tpN (fun t => (r t + r t) % 4) (m + 1) = tpN (fun t => (r t + r t) % 4) m + (r m + r m) % 4 * 4 ^ m from rfl, ih (fun t ht => h t (by omega)) a1, a3, Nat.zero_add, Nat.zero_mod, Nat.zero_mul]
    rw [z1, z2]
    unfold rdY
    rw [ow]
    by_cases a : tpN r n = 0
    · rw [i1 a]
      have b := z3 a
      refine ⟨fun y => ?_, fun y y2 => ?_, fun y y2 => ?_⟩
      · rw [if_pos y.2]; rfl
      · have c0 : ¬ r n = 0 := fun q => y ⟨a, q⟩
        have c2 : r n = 2 := by have := y2.2; omega
        rw [if_neg c0, if_pos c2]; rfl
      · have c0 : ¬ r n = 0 := fun q => y ⟨a, q⟩
        have c2 : ¬ r n = 2 := fun q => y2 ⟨b, by rw [q]⟩
        rw [if_neg c0, if_neg c2]; rfl
    · by_cases b : tpN (fun t => (r t + r t) % 4) n = 0
      · rw [i2 a b]
        refine ⟨fun y => absurd y.1 a, fun _ y2 => ?_, fun y y2 => ?_⟩
        · have c2 : r n = 0 ∨ r n = 2 := by have := y2.2; omega
          rcases c2 with c | c
          · rw [if_pos c]; rfl
          · rw [if_neg (show ¬ r n = 0 by omega), if_pos c]; rfl
        · have c2 : ¬ (r n + r n) % 4 = 0 := fun q => y2 ⟨b, q⟩
          rw [if_neg (show ¬ r n = 0 by omega), if_neg (show ¬ r n = 2 by omega)]; rfl
      · rw [i3 a b]
        refine ⟨fun y => absurd y.1 a, fun _ y2 => absurd y2.1 b, fun _ _ => ?_⟩
        by_cases c0 : r n = 0
        · rw [if_pos c0]; rfl
        · by_cases c2 : r n = 2
          · rw [if_neg c0, if_pos c2]; rfl
          · rw [if_neg c0, if_neg c2]; rfl
theorem tw_round : twn 120 202 [.ref 0] := by
  apply twn_rd
  intro k sx sn X N hk ox om hR
  apply Exists.intro
  apply And.intro
  · intro Q hQ
    rw [eS120]
    exact ⟨rfl, ⟨ox, hR.lo.1⟩, hQ⟩
  · intro Q hQ
    rw [eS202]
    refine ⟨rfl, ⟨om, hR.gm⟩, Qe hQ ?_ rfl⟩
    rw [← hR.lo.2.2.2.2.1]
    by_cases c : X 3 2 = nI 0
    · rw [if_pos c, if_pos c]
    rw [if_neg c, if_neg c]
    have n6 := hR.n6
    show nI (rdY N (N 0 3).toNatClampNeg) = if rdF X (nX X) (X 3 2).toNatClampNeg = nI 0 then nI 1 else if adT (rdF X (nX X) (X 3 2).toNatClampNeg) (rdF X (nX X) (X 3 2).toNatClampNeg) = nI 0 then nI 2 else nI 4
    rw [n6.2.2.2, rdF_N n6.1, adT_dg (fun t => ⟨rg_lt _ _ _ _, rg_lt _ _ _ _⟩)]
    have rz : ∀ t, nX X ≤ t → ∀ j, rg X (nX X) j t = 0 := fun t ht j => by
      induction j with
      | zero => rfl
      | succ j ih =>
        unfold rg
        rw [ih, show sg X (nX X) ((X 9 j).toNatClampNeg / 10) ((X 9 j).toNatClampNeg % 10) t = 0 from if_neg (fun y => by omega)]
    have s6 : ∀ f : Nat → Nat, (∀ t, nX X ≤ t → f t = 0) → tpN f 6 = tpN f (nX X) := fun f hf => by
      have := tpN_zero (h := f) (n := nX X) (6 - nX X) hf
      rw [show nX X + (6 - nX X) = 6 by omega] at this
      exact this
    rw [s6 _ (fun t ht => rz t ht _), s6 _ (fun t ht => by rw [rz t ht])]
    have l1 := tpN_lt (h := rg X (nX X) (X 3 2).toNatClampNeg) (nX X) (fun t _ => rg_lt _ _ _ _)
    have l2 := tpN_lt (h := fun t => (rg X (nX X) (X 3 2).toNatClampNeg t + rg X (nX X) (X 3 2).toNatClampNeg t) % 4) (nX X) (fun t _ => Nat.mod_lt _ (by decide))
    have p4 := p4_le n6.1
    obtain ⟨r1, r2, r3⟩ := rd_N (N := N) (r := rg X (nX X) (X 3 2).toNatClampNeg) (nX X) (fun t ht => ⟨rg_lt _ _ _ _, by
      rw [← hR.lo.2.2.2.2.1, ← tw_sum hR ht _ (Nat.le_refl _), and_dgt, tw_dgt ht]⟩)
    by_cases a : tpN (rg X (nX X) (X 3 2).toNatClampNeg) (nX X) = 0
    · rw [r1 a, a, if_pos rfl]
    · rw [if_neg (fun y => a (nI_inj y (by omega) (by decide)))]
      by_cases b : tpN (fun t => (rg X (nX X) (X 3 2).toNatClampNeg t + rg X (nX X) (X 3 2).toNatClampNeg t) % 4) (nX X) = 0
      · rw [r2 a b, b, if_pos rfl]
      · rw [r3 a b, if_neg (fun y => b (nI_inj y (by omega) (by decide)))]
