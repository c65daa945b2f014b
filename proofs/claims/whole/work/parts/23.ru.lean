/-! slips -/
theorem sft : ∀ t : Fin 6, ((nI t.1 &&& 31).toBitVec.smod 32).toNat = t.1 := by decide
theorem lsb1 (y : BitVec 32) : y &&& 1#32 = 1#32 ↔ y.getLsbD 0 = true := by
  constructor
  · intro h
    have := congrArg (fun z => z.getLsbD 0) h
    simpa using this
  · intro h
    apply BitVec.eq_of_getLsbD_eq
    intro i hi
    rw [BitVec.getLsbD_and]
    by_cases z : i = 0
    · subst z; rw [h]; rfl
    · have : (1#32).getLsbD i = false := by
        rw [BitVec.getLsbD_one]
        simp [z]
      rw [this, Bool.and_false]
theorem bit_g (a : Int32) (t : Fin 6) : (a >>> (nI t.1 &&& 31) &&& nI 1 = nI 1) ↔ a.toBitVec.getLsbD t.1 = true := by
  rw [← Int32.toBitVec_inj, Int32.toBitVec_and, show (nI 1).toBitVec = 1#32 from rfl, lsb1, Int32.toBitVec_shiftRight, BitVec.sshiftRight', sft, BitVec.getLsbD_sshiftRight]
  have := t.2
  rw [show (!decide (32 ≤ 0)) = true from rfl, Bool.true_and, if_pos (by omega), Nat.add_zero]
theorem nz_g (a : Int32) (s : Nat) (hs : s < 64) : nI s &&& (a ^^^ Int32.ofInt (-1)) = nI 0 ↔ ∀ t, t < 6 → s.testBit t = true → a.toBitVec.getLsbD t = true := by
  rw [← Int32.toBitVec_inj, Int32.toBitVec_and, Int32.toBitVec_xor]
  have bs : ∀ i, (nI s).toBitVec.getLsbD i = (decide (i < 32) && s.testBit i) := fun i => BitVec.getLsbD_ofNat 32 s i
  have b1 : ∀ i, i < 32 → (Int32.ofInt (-1)).toBitVec.getLsbD i = true := by decide
  constructor
  · intro h t ht st
    have := congrArg (fun z => z.getLsbD t) h
    simp only [BitVec.getLsbD_and, BitVec.getLsbD_xor, bs, b1 t (by omega), st] at this
    rw [show (nI 0).toBitVec.getLsbD t = false from by rw [show (nI 0).toBitVec = 0#32 from rfl]; exact BitVec.getLsbD_zero] at this
    simp only [show t < 32 by omega, decide_true, Bool.true_and, Bool.xor_true, Bool.not_eq_false'] at this
    exact this
  · intro h
    apply BitVec.eq_of_getLsbD_eq
    intro i hi
    rw [show (nI 0).toBitVec = 0#32 from rfl, BitVec.getLsbD_zero, BitVec.getLsbD_and, BitVec.getLsbD_xor, bs, b1 i hi, Bool.xor_true]
    by_cases st : s.testBit i = true
    · have h6 : i < 6 := by
        apply Classical.byContradiction
        intro y
        have : s.testBit i = false := Nat.testBit_lt_two_pow (Nat.lt_of_lt_of_le hs (show 2 ^ 6 ≤ 2 ^ i from Nat.pow_le_pow_right (by decide) (by omega)))
        rw [this] at st
        exact absurd st (by decide)
      rw [h i h6 st]
      simp
    · simp [st]
theorem slip_b {s t : Nat} (ht : t < 6) : (nI s >>> (nI t &&& 31) &&& nI 1 = nI 1) ↔ s.testBit t = true := by
  have := bit_g (nI s) ⟨t, ht⟩
  dsimp only at this
  rw [this, show (nI s).toBitVec.getLsbD t = (decide (t < 32) && s.testBit t) from BitVec.getLsbD_ofNat 32 s t, show decide (t < 32) = true from decide_eq_true (by omega), Bool.true_and]
def Pd (f : Nat → Nat) : Nat → Nat
  | 0 => 1
  | n + 1 => Pd f n * f n
theorem Pd_cg {f g : Nat → Nat} : ∀ n, (∀ i, i < n → f i = g i) → Pd f n = Pd g n
  | 0, _ => rfl
  | n + 1, h => by
    unfold Pd
    rw [Pd_cg n (fun i hi => h i (by omega)), h n (by omega)]
theorem Pd_1 {f : Nat → Nat} {n : Nat} : ∀ d, (∀ i, n ≤ i → i < n + d → f i = 1) → Pd f (n + d) = Pd f n
  | 0, _ => rfl
  | d + 1, h => by
    show Pd f (n + d) * f (n + d) = Pd f n
    rw [Pd_1 d (fun i a b => h i a (by omega)), h (n + d) (by omega) (by omega), Nat.mul_one]
theorem Pd_0 {f : Nat → Nat} {i : Nat} (hf : f i = 0) : ∀ n, i < n → Pd f n = 0
  | 0, h => absurd h (by omega)
  | n + 1, h => by
    unfold Pd
    by_cases c : i = n
    · subst c; rw [hf, Nat.mul_zero]
    · rw [Pd_0 hf n (by omega), Nat.zero_mul]
theorem Sm_sp {f : Nat → Nat} {a : Nat} : ∀ b, Sm f (a + b) = Sm f a + Sm (fun i => f (a + i)) b
  | 0 => rfl
  | b + 1 => by
    show Sm f (a + b) + f (a + b) = Sm f a + (Sm (fun i => f (a + i)) b + f (a + b))
    rw [Sm_sp b]
    omega
/-- over all sets of k: the sum of the products is the product of the sums -/
theorem Sm_Pd {h : Nat → Bool → Nat} : ∀ k, Sm (fun s => Pd (fun t => h t (s.testBit t)) k) (2 ^ k) = Pd (fun t => h t false + h t true) k
  | 0 => rfl
  | k + 1 => by
    have ih := Sm_Pd (h := h) k
    rw [show (2 : Nat) ^ (k + 1) = 2 ^ k + 2 ^ k by rw [Nat.pow_succ]; omega, Sm_sp]
    have e1 : Sm (fun s => Pd (fun t => h t (s.testBit t)) (k + 1)) (2 ^ k) = Sm (fun s => Pd (fun t => h t (s.testBit t)) k) (2 ^ k) * h k false := by
      rw [← Sm_mr]
      refine Sm_cg _ (fun s hs => ?_)
      show Pd (fun t => h t (s.testBit t)) k * h k (s.testBit k) = _
      rw [Nat.testBit_lt_two_pow hs]
    have e2 : Sm (fun i => (fun s => Pd (fun t => h t (s.testBit t)) (k + 1)) (2 ^ k + i)) (2 ^ k) = Sm (fun s => Pd (fun t => h t (s.testBit t)) k) (2 ^ k) * h k true := by
      rw [← Sm_mr]
      refine Sm_cg _ (fun s hs => ?_)
      show Pd (fun t => h t ((2 ^ k + s).testBit t)) k * h k ((2 ^ k + s).testBit k) = _
      rw [Nat.testBit_two_pow_add_eq, Nat.testBit_lt_two_pow hs, Pd_cg k (g := fun t => h t (s.testBit t)) (fun t ht => by rw [Nat.testBit_two_pow_add_gt ht])]
      rfl
    rw [e1, e2, ih, ← Nat.mul_add]
    rfl
/-- is tablet t of pack p -/
def mB (a : Int32) (t : Nat) : Bool := a.toBitVec.getLsbD t
/-- the weight of tablet t with or without a slip -/
def gw (a : Int32) (n z t : Nat) (b : Bool) : Nat := if t < n then (if mB a t = true then (if b = true then z else 10 - z) else (if b = true then 0 else 1)) else (if b = true then (if mB a t = true then 1 else 0) else 1)
/-- the same, when a slip of tablet t shows where q says -/
def gq (q : Nat → Bool) (a : Int32) (n z t : Nat) (b : Bool) : Nat := if b = true ∧ q t = true then 0 else gw a n z t b
theorem slH_1 {M : mv_Mem} {p s z : Nat} (h : nI s &&& (M 5 p ^^^ Int32.ofInt (-1)) = nI 0) : ∀ n, slH M p s z n = Pd (fun t => slC M p s t z) n
  | 0 => if_pos h
  | n + 1 => by
    unfold slH Pd
    rw [slH_1 h n]
theorem slH_0 {M : mv_Mem} {p s z : Nat} (h : ¬ nI s &&& (M 5 p ^^^ Int32.ofInt (-1)) = nI 0) : ∀ n, slH M p s z n = 0
  | 0 => if_neg h
  | n + 1 => by
    unfold slH
    rw [slH_0 h n, Nat.zero_mul]
theorem slH_w {M : mv_Mem} {p s z n : Nat} (hs : s < 64) (hn : n ≤ 6) : slH M p s z n = Pd (fun t => gw (M 5 p) n z t (s.testBit t)) 6 := by
  by_cases c : nI s &&& (M 5 p ^^^ Int32.ofInt (-1)) = nI 0
  · rw [slH_1 c]
    have c2 := (nz_g _ _ hs).mp c
    have e := Pd_1 (f := fun t => gw (M 5 p) n z t (s.testBit t)) (n := n) (6 - n) (fun i h1 h2 => ?_)
    · rw [show n + (6 - n) = 6 by omega] at e
      rw [e]
      refine Pd_cg _ (fun t ht => ?_)
      have b := bit_g (M 5 p) ⟨t, by omega⟩
      dsimp only at b
      have b2 := slip_b (s := s) (t := t) (by omega)
      unfold slC gw mB
      rw [if_pos ht]
      by_cases d : (M 5 p).toBitVec.getLsbD t = true
      · rw [if_pos (b.mpr d), if_pos d]
        by_cases f : s.testBit t = true
        · rw [if_pos (b2.mpr f), if_pos f]
        · rw [if_neg (fun y => f (b2.mp y)), if_neg f]
      · rw [if_neg (fun y => d (b.mp y)), if_neg d, if_neg (fun y => d (c2 t (by omega) y))]
    · show gw (M 5 p) n z i (s.testBit i) = 1
      unfold gw mB
      rw [if_neg (by omega)]
      by_cases f : s.testBit i = true
      · rw [if_pos f, if_pos (c2 i (by omega) f)]
      · rw [if_neg f]
  · rw [slH_0 c]
    obtain ⟨t, ht, t1, t2⟩ : ∃ t, t < 6 ∧ s.testBit t = true ∧ ¬ (M 5 p).toBitVec.getLsbD t = true := by
      refine Classical.byContradiction (fun y => c ((nz_g _ _ hs).mpr (fun t ht st => Classical.byContradiction (fun w => y ⟨t, ht, st, w⟩))))
    refine (Pd_0 (i := t) ?_ 6 ht).symm
    show gw (M 5 p) n z t (s.testBit t) = 0
    unfold gw mB
    rw [t1, if_neg t2, if_neg t2]
    split <;> rfl
theorem gq_w {q : Nat → Bool} {a : Int32} {n z s : Nat} : ((∀ t, t < 6 → s.testBit t = true → q t = false) → Pd (fun t => gq q a n z t (s.testBit t)) 6 = Pd (fun t => gw a n z t (s.testBit t)) 6) ∧ (¬ (∀ t, t < 6 → s.testBit t = true → q t = false) → Pd (fun t => gq q a n z t (s.testBit t)) 6 = 0) := by
  refine ⟨fun c => ?_, fun c => ?_⟩
  · refine Pd_cg _ (fun t ht => ?_)
    unfold gq
    rw [if_neg]
    rintro ⟨c1, c2⟩
    rw [c t ht c1] at c2
    exact absurd c2 (by decide)
  · obtain ⟨t, ht, t1, t2⟩ : ∃ t, t < 6 ∧ s.testBit t = true ∧ ¬ q t = false :=
      Classical.byContradiction (fun y => c (fun t ht st => Classical.byContradiction (fun w => y ⟨t, ht, st, w⟩)))
    refine Pd_0 (i := t) ?_ 6 ht
    show gq q a n z t (s.testBit t) = 0
    unfold gq
    rw [if_pos ⟨t1, by simpa using t2⟩]
/-- what of the weights is the same with and without -/
def rw_ (q : Nat → Bool) (a : Int32) (n z t : Nat) : Nat := if q t = true then 1 else gw a n z t false + gw a n z t true
theorem gw_pos {a : Int32} {n z t : Nat} (hz : z ≤ 10) : 0 < gw a n z t false + gw a n z t true := by
  unfold gw
  rw [if_neg (show ¬ false = true by decide), if_pos rfl, if_neg (show ¬ false = true by decide), if_neg (show ¬ false = true by decide), if_pos rfl, if_pos rfl]
  split
  · split <;> omega
  · omega
theorem fc_w {q : Nat → Bool} {a : Int32} {n z : Nat} (hz : z ≤ 10) (hq : ∀ t, q t = true → t < n ∧ mB a t = true) : ∀ k,
    Pd (fun t => gw a n z t false + gw a n z t true) k = 10 ^ Sm (fun t => if q t = true then 1 else 0) k * Pd (rw_ q a n z) k ∧
    Pd (fun t => gq q a n z t false + gq q a n z t true) k = (10 - z) ^ Sm (fun t => if q t = true then 1 else 0) k * Pd (rw_ q a n z) k ∧ 0 < Pd (rw_ q a n z) k
  | 0 => ⟨rfl, rfl, by show 0 < 1; decide⟩
  | k + 1 => by
    obtain ⟨i1, i2, i3⟩ := fc_w (z := z) hz hq k
    have p := gw_pos (a := a) (n := n) (t := k) hz
    unfold Pd Sm
    by_cases c : q k = true
    · obtain ⟨h1, h2⟩ := hq k c
      have g1 : gw a n z k false + gw a n z k true = 10 := by
        unfold gw
        rw [if_pos h1, if_pos h1, if_pos h2, if_pos h2, if_neg (by decide), if_pos rfl]
        omega
      have g2 : gq q a n z k false + gq q a n z k true = 10 - z := by
        have e1 : gq q a n z k false = gw a n z k false := if_neg (fun y => absurd y.1 (by decide))
        have e2 : gq q a n z k true = 0 := if_pos ⟨rfl, c⟩
        rw [e1, e2, Nat.add_zero]
        unfold gw
        rw [if_pos h1, if_pos h2, if_neg (by decide)]
      have g3 : rw_ q a n z k = 1 := if_pos c
      rw [i1, i2, g1, g2, g3, if_pos c, Nat.pow_succ, Nat.pow_succ, Nat.mul_one]
      refine ⟨by rw [Nat.mul_right_comm], by rw [Nat.mul_right_comm], i3⟩
    · have g2 : gq q a n z k false + gq q a n z k true = gw a n z k false + gw a n z k true := by
        unfold gq
        rw [if_neg (fun y => c y.2), if_neg (fun y => c y.2)]
      have g3 : rw_ q a n z k = gw a n z k false + gw a n z k true := if_neg c
      rw [i1, i2, g2, g3, if_neg c, Nat.add_zero]
      exact ⟨Nat.mul_assoc _ _ _, Nat.mul_assoc _ _ _, Nat.mul_pos i3 p⟩
theorem slD_Sm {M : mv_Mem} {p n z : Nat} : ∀ k, slD M p n z k = Sm (fun s => slH M p s z n) k
  | 0 => rfl
  | k + 1 => by
    unfold slD Sm
    rw [slD_Sm k]
theorem slA_Sm {M N : mv_Mem} {p w n z : Nat} {d : Int32} : ∀ k, slA M N p w n z d k = Sm (fun s => if coY (sqM M N p w n (s + 1)) 8789 = d then slH M p s z n else 0) k
  | 0 => rfl
  | k + 1 => by
    unfold slA Sm
    rw [slA_Sm k]
theorem slB_w {M : mv_Mem} {p z n : Nat} (hn : (M 0 3).toNatClampNeg = n) (h6 : n ≤ 6) : slB M p z = Pd (fun t => gw (M 5 p) n z t false + gw (M 5 p) n z t true) 6 := by
  unfold slB
  rw [hn, slD_Sm, ← Sm_Pd]
  exact Sm_cg _ (fun s hs => slH_w hs h6)
theorem Pd_pos {f : Nat → Nat} : ∀ n, (∀ i, i < n → 0 < f i) → 0 < Pd f n
  | 0, _ => by show 0 < 1; decide
  | n + 1, h => Nat.mul_pos (Pd_pos n (fun i hi => h i (by omega))) (h n (by omega))
theorem slB_pos {M : mv_Mem} {p z n : Nat} (hn : (M 0 3).toNatClampNeg = n) (h6 : n ≤ 6) (hz : z ≤ 10) : 0 < slB M p z := by
  rw [slB_w hn h6]
  exact Pd_pos 6 (fun i _ => gw_pos hz)
theorem gd_ok : ∀ k n a b, b < 2 ^ k → 2 * k + 1 ≤ n → gdF n a b = Nat.gcd a b
  | _, 0, _, _, _, h => absurd h (by omega)
  | 0, n + 1, a, b, hb, _ => by
    have : b = 0 := by have : (2 : Nat) ^ 0 = 1 := rfl; omega
    subst this
    unfold gdF
    rw [if_pos rfl, Nat.gcd_zero_right]
  | k + 1, 1, a, b, hb, h => absurd h (by omega)
  | k + 1, n + 2, a, b, hb, h => by
    unfold gdF
    by_cases c : b = 0
    · subst c
      rw [if_pos rfl, Nat.gcd_zero_right]
    · rw [if_neg c, Nat.gcd_comm a b, Nat.gcd_rec b a, Nat.gcd_comm (a % b) b]
      unfold gdF
      by_cases d : a % b = 0
      · rw [if_pos d, d, Nat.gcd_zero_right]
      · rw [if_neg d, Nat.gcd_comm b (a % b), Nat.gcd_rec (a % b) b, Nat.gcd_comm (b % (a % b)) (a % b)]
        refine gd_ok k n _ _ ?_ (by omega)
        have l1 := Nat.mod_lt a (Nat.pos_of_ne_zero c)
        have l2 := Nat.mod_lt b (Nat.pos_of_ne_zero d)
        have l3 := Nat.div_add_mod b (a % b)
        have l4 : 1 ≤ b / (a % b) := (Nat.one_le_div_iff (Nat.pos_of_ne_zero d)).mpr (by omega)
        have l5 : (a % b) * 1 ≤ (a % b) * (b / (a % b)) := Nat.mul_le_mul_left _ l4
        rw [Nat.pow_succ] at hb
        omega
/-- what a full pick makes of the tops of base b -/
theorem tr6 {M : mv_Mem} {b p w : Nat} : ∀ n, n ≤ 6 → ∀ t, t < n → trY M b p w n 1 (b + 6 + t) = if toY M b p w t = 0 then (M 1 (b + 6 + t) + qf (M 2 t).toNatClampNeg w) &&& nI 3 else M 1 (b + 6 + t)
  | 0, _, t, ht => absurd ht (by omega)
  | n + 1, hn, t, ht => by
    rw [show trY M b p w (n + 1) = tsY (trY M b p w n) b p w n from rfl]
    by_cases c : t = n
    · subst c
      have e6 : trY M b p w t 1 (b + 6 + t) = M 1 (b + 6 + t) := trY_at t (by omega) (Or.inr (Or.inr ⟨t, by omega, by omega, Or.inl rfl⟩))
      have e12 : trY M b p w t 1 (b + 12 + t) = M 1 (b + 12 + t) := trY_at t (by omega) (Or.inr (Or.inr ⟨t, by omega, by omega, Or.inr (Or.inl rfl)⟩))
      have eo : toY (trY M b p w t) b p w t = toY M b p w t := by
        unfold toY
        rw [e12, trY_out (by decide), trY_out (by decide), trY_out (by decide)]
      unfold tsY
      rw [eo]
      by_cases d : toY M b p w t = 0
      · rw [if_pos d, if_pos d]
        unfold tyM
        rw [q_upN (by omega), q_upN (by omega), q_upN (by omega), q_upS, e6, trY_out (by decide)]
      · rw [if_neg d, if_neg d, q_upN (by omega)]
        exact e6
    · rw [tsY_at (by omega) (by omega) (by omega) (by omega)]
      exact tr6 n (by omega) t (by omega)
/-- what a pick with the slips s makes of them -/
theorem sl6 {M N : mv_Mem} {p w s : Nat} : ∀ n, n ≤ 6 → (∀ j, 8789 + 12 ≤ j → j < 8789 + 18 → slT M N p w s 0 1 j = N 1 j) → ∀ t, t < n → slT M N p w s n 1 (8789 + 6 + t) = if (M 5 p >>> (nI t &&& 31) &&& nI 1 = nI 1 ∧ ¬ nI s >>> (nI t &&& 31) &&& nI 1 = nI 1) ∧ ocF (N 2 t).toNatClampNeg w (N 1 (8789 + 12 + t)) (N 0 9) = 0 then (N 1 (8789 + 6 + t) + qf (N 2 t).toNatClampNeg w) &&& nI 3 else N 1 (8789 + 6 + t)
  | 0, _, _, t, ht => absurd ht (by omega)
  | n + 1, hn, h0, t, ht => by
    have keep : ∀ n j, (∀ t, t < n → ¬ j = 8789 + 6 + t ∧ ¬ j = 8789 + 12 + t ∧ ¬ j = 8789 + 24 + t) → slT M N p w s n 1 j = N 1 j := by
      intro n j
      induction n with
      | zero => intro _; rfl
      | succ n ih =>
        intro h
        obtain ⟨a1, a2, a3⟩ := h n (by omega)
        rw [show slT M N p w s (n + 1) = slN M (slT M N p w s n) p w s n from rfl, slN_at a1 a2 a3]
        exact ih (fun t ht => h t (by omega))
    rw [show slT M N p w s (n + 1) = slN M (slT M N p w s n) p w s n from rfl]
    by_cases c : t = n
    · subst c
      have e6 : slT M N p w s t 1 (8789 + 6 + t) = N 1 (8789 + 6 + t) := keep t _ (fun u hu => ⟨by omega, by omega, by omega⟩)
      have e12 : slT M N p w s t 1 (8789 + 12 + t) = N 1 (8789 + 12 + t) := keep t _ (fun u hu => ⟨by omega, by omega, by omega⟩)
      have o2 : slT M N p w s t 2 = N 2 := slT_out (by decide) t
      have o0 : slT M N p w s t 0 = N 0 := slT_out (by decide) t
      unfold slN
      rw [o2, o0, e12]
      by_cases d : M 5 p >>> (nI t &&& 31) &&& nI 1 = nI 1
      · rw [if_pos d]
        by_cases f : nI s >>> (nI t &&& 31) &&& nI 1 = nI 1
        · rw [if_pos f, if_neg (fun y => y.1.2 f)]
          exact e6
        · rw [if_neg f]
          by_cases g : ocF (N 2 t).toNatClampNeg w (N 1 (8789 + 12 + t)) (N 0 9) = 0
          · rw [if_pos g, if_pos ⟨⟨d, f⟩, g⟩]
            unfold tyM
            rw [q_upN (by omega), q_upN (by omega), q_upS, e6]
          · rw [if_neg g, if_neg (fun y => g y.2)]
            exact e6
      · rw [if_neg d, if_neg (fun y => d y.1.1)]
        exact e6
    · rw [slN_at (by omega) (by omega) (by omega)]
      exact sl6 n (by omega) (fun j a b => rfl) t (by omega)
theorem clN_inj {f g : Nat → Int32} : ∀ n, n ≤ 6 → (∀ t, t < n → (∃ d, d < 10 ∧ f t = nI d) ∧ ∃ d, d < 10 ∧ g t = nI d) → (clN f n = clN g n ↔ ∀ t, t < n → f t = g t)
  | 0, _, _ => ⟨fun _ t ht => absurd ht (by omega), fun _ => rfl⟩
  | n + 1, hn, h => by
    have ih := clN_inj n (by omega) (fun t ht => h t (by omega))
    obtain ⟨⟨a, ha, ea⟩, ⟨b, hb, eb⟩⟩ := h n (by omega)
    unfold clN
    rw [ea, eb, q_cl (by omega), q_cl (by omega)]
    constructor
    · intro y t ht
      by_cases c : t = n
      · subst c
        rw [ea, eb, show a = b by omega]
      · exact ih.mp (by omega) t (by omega)
    · intro y
      have e1 := ih.mpr (fun t ht => y t (by omega))
      have e2 := y n (by omega)
      rw [ea, eb] at e2
      have := nI_inj e2 (by omega) (by omega)
      rw [e1, this]
theorem clF_inj {f g : Nat → Int32} {n : Nat} (hn : n ≤ 6) (h : ∀ t, t < n → (∃ d, d < 10 ∧ f t = nI d) ∧ ∃ d, d < 10 ∧ g t = nI d) : clF f n = clF g n ↔ ∀ t, t < n → f t = g t := by
  obtain ⟨a1, a2⟩ := clF_N (g := f) n hn (fun t ht => (h t ht).1)
  obtain ⟨b1, b2⟩ := clF_N (g := g) n hn (fun t ht => (h t ht).2)
  have t10 := ten_n hn
  rw [a1, b1, ← clN_inj n hn h]
  exact ⟨fun y => nI_inj y (by omega) (by omega), fun y => by rw [y]⟩
section
variable {k : Nat} {X N : mv_Mem}
/-- does turning tablet t by the pick show, in the model's words -/
def shw (N : mv_Mem) (p w t : Nat) : Prop := (N 5 p >>> (nI t &&& 31) &&& nI 1 = nI 1 ∧ ocF (N 2 t).toNatClampNeg w (N 1 (12 + t)) (N 0 9) = 0) ∧ ¬ N 3 (4 * t + ((N 1 (6 + t) + qf (N 2 t).toNatClampNeg w) &&& nI 3).toNatClampNeg) = N 3 (4 * t + (N 1 (6 + t)).toNatClampNeg)
theorem RR.ss (h : RR k X N) {p w t : Nat} (hp : p < (X 3 1).toNatClampNeg) (ht : t < nX X) : (ssB X p w t = 1 ∧ shw N p w t) ∨ (ssB X p w t = 0 ∧ ¬ shw N p w t) := by
  have n6 := h.n6.1
  obtain ⟨⟨x1, x2⟩, x3⟩ := h.k4 t ht
  have f := h.cl.1.1 t ht
  have e8 : X (3 + 5) p = N 5 p := h.lo.2.2.2.2.2.2.2.2.2.2.1 p hp
  have e33 : X 3 3 = N 0 9 := h.e33
  have e19 : X (18 + 1) (t * 5 + 0) = N 1 (6 + t) := by have := f.2.1.1; simp only [Nat.zero_add] at this; exact this
  have e191 : X (18 + 1) (t * 5 + 1) = N 1 (12 + t) := by have := f.2.2.1.1; simp only [Nat.zero_add] at this; exact this
  obtain ⟨hh, h4, e6⟩ := f.2.1.2
  simp only [Nat.zero_add] at e6
  obtain ⟨qq, q4, eq⟩ : ∃ q, q < 4 ∧ (N 1 (6 + t) + qf (N 2 t).toNatClampNeg w) &&& nI 3 = nI q := pk_andE _ (m := nI 3) 2 (by decide)
  have lo := h.lo.2.2.2.2.2.2.2.2.2.1
  unfold ssB shw
  rw [show X (3 + 1) t = N 2 t from x3, e8, e33, e19, e191, eq, e6, q_cl (by omega), q_cl (by omega), show X (3 + 3) (t * 4 + qq) = N 3 (4 * t + qq) from (lo t qq ht q4).1, show X (3 + 3) (t * 4 + hh) = N 3 (4 * t + hh) from (lo t hh ht h4).1]
  by_cases c : N 5 p >>> (nI t &&& 31) &&& nI 1 = nI 1
  · rw [if_pos c]
    by_cases d : ocF (N 2 t).toNatClampNeg w (N 1 (12 + t)) (N 0 9) = 0 ∧ ¬ N 3 (4 * t + qq) = N 3 (4 * t + hh)
    · rw [if_pos d]
      exact Or.inl ⟨rfl, ⟨c, d.1⟩, d.2⟩
    · rw [if_neg d]
      exact Or.inr ⟨rfl, fun y => d ⟨y.1.2, y.2⟩⟩
  · rw [if_neg c]
    exact Or.inr ⟨rfl, fun y => c y.1.1⟩
/-- do the slips s leave the row as due -/
theorem RR.du (h : RR k X N) {p w s : Nat} (hs : s < 64) : coY (sqM N (slS N p w) p w (nX X) (s + 1)) 8789 = coY (slS N p w) 8789 ↔ ∀ t, t < nX X → s.testBit t = true → ¬ shw N p w t := by
  have n6 := h.n6
  have n66 := n6.1
  have o3 : sqM N (slS N p w) p w (nX X) (s + 1) 3 = N 3 := by
    rw [sqM_out (by decide)]; unfold slS; rw [trY_out (by decide), cpY_out (by decide)]
  have o3' : slS N p w 3 = N 3 := by unfold slS; rw [trY_out (by decide), cpY_out (by decide)]
  have o0 : sqM N (slS N p w) p w (nX X) (s + 1) 0 = N 0 := by
    rw [sqM_out (by decide)]; unfold slS; rw [trY_out (by decide), cpY_out (by decide)]
  have o0' : slS N p w 0 = N 0 := by unfold slS; rw [trY_out (by decide), cpY_out (by decide)]
  have lo := h.lo.2.2.2.2.2.2.2.2.2.1
  -- the tops with and without the slips
  have cp : ∀ (M' : mv_Mem), (∀ c, ¬ c = 1 → M' c = N c) → (∀ j, j < 8789 → M' 1 j = N 1 j) → (∀ j, j < 799 → cpY M' 0 8789 799 1 (8789 + j) = N 1 j) ∧ ∀ c, ¬ c = 1 → cpY M' 0 8789 799 c = N c := by
    intro M' a b
    refine ⟨fun j hj => ?_, fun c hc => (cpY_out hc).trans (a c hc)⟩
    rw [cpY_in hj, Nat.zero_add, b j (by omega)]
  obtain ⟨u1, u2⟩ := cp N (fun _ _ => rfl) (fun _ _ => rfl)
  have so : ∀ c, ¬ c = 1 → sqM N (slS N p w) p w (nX X) s c = N c := fun c hc => by rw [sqM_out hc]; unfold slS; rw [trY_out hc, cpY_out hc]
  have sl : ∀ j, j < 8789 → sqM N (slS N p w) p w (nX X) s 1 j = N 1 j := fun j hj => by
    rw [sqM_lo hj]; unfold slS; rw [trY_at _ (by rw [n6.2.2.2]; exact n66) (Or.inl (by omega)), cpY_at (Or.inl hj)]
  obtain ⟨v1, v2⟩ := cp _ so sl
  have topA : ∀ t, t < nX X → slS N p w 1 (8789 + 6 + t) = if N 5 p >>> (nI t &&& 31) &&& nI 1 = nI 1 ∧ ocF (N 2 t).toNatClampNeg w (N 1 (12 + t)) (N 0 9) = 0 then (N 1 (6 + t) + qf (N 2 t).toNatClampNeg w) &&& nI 3 else N 1 (6 + t) := by
    intro t ht
    unfold slS
    rw [n6.2.2.2, tr6 _ n66 t ht]
    unfold toY
    rw [u2 5 (by decide), u2 2 (by decide), u2 0 (by decide), show 8789 + 12 + t = 8789 + (12 + t) by omega, show 8789 + 6 + t = 8789 + (6 + t) by omega, u1 _ (by omega), u1 _ (by omega)]
    by_cases c : N 5 p >>> (nI t &&& 31) &&& nI 1 = nI 1
    · rw [if_pos c]
      by_cases d : ocF (N 2 t).toNatClampNeg w (N 1 (12 + t)) (N 0 9) = 0
      · rw [if_pos d, if_pos ⟨c, d⟩]
      · rw [if_neg d, if_neg (fun y => d y.2)]
    · rw [if_neg c, if_neg (by decide), if_neg (fun y => c y.1)]
  have topB : ∀ t, t < nX X → sqM N (slS N p w) p w (nX X) (s + 1) 1 (8789 + 6 + t) = if (N 5 p >>> (nI t &&& 31) &&& nI 1 = nI 1 ∧ ¬ nI s >>> (nI t &&& 31) &&& nI 1 = nI 1) ∧ ocF (N 2 t).toNatClampNeg w (N 1 (12 + t)) (N 0 9) = 0 then (N 1 (6 + t) + qf (N 2 t).toNatClampNeg w) &&& nI 3 else N 1 (6 + t) := by
    intro t ht
    unfold sqM
    rw [sl6 _ n66 (fun _ _ _ => rfl) t ht, v2 2 (by decide), v2 0 (by decide), show 8789 + 12 + t = 8789 + (12 + t) by omega, show 8789 + 6 + t = 8789 + (6 + t) by omega, v1 _ (by omega), v1 _ (by omega)]
  have dig : ∀ t, t < nX X → ∀ y : Int32, (∃ q, q < 4 ∧ y = nI q) → ∃ d, d < 10 ∧ N 3 (4 * t + y.toNatClampNeg) = nI d := by
    rintro t ht y ⟨q, q4, rfl⟩
    rw [q_cl (by omega)]
    exact h.gm.2.2.2.2.2.1 _ (by rw [n6.2.2.2]; omega)
  have h6 : ∀ t, t < nX X → ∃ q, q < 4 ∧ N 1 (6 + t) = nI q := fun t ht => by
    obtain ⟨hh, h4, e6⟩ := (h.cl.1.1 t ht).2.1.2
    simp only [Nat.zero_add] at e6
    exact ⟨hh, h4, e6⟩
  have hq : ∀ t, ∃ q, q < 4 ∧ (N 1 (6 + t) + qf (N 2 t).toNatClampNeg w) &&& nI 3 = nI q := fun t => pk_andE _ (m := nI 3) 2 (by decide)
  unfold coY
  rw [o0, o0', n6.2.2.2, clF_inj n66 (fun t ht => ?_)]
  · refine forall_congr' (fun t => forall_congr' (fun ht => ?_))
    have sb := slip_b (s := s) (t := t) (by omega)
    unfold coG
    rw [topA t ht, topB t ht, o3, o3']
    unfold shw
    by_cases c : N 5 p >>> (nI t &&& 31) &&& nI 1 = nI 1 ∧ ocF (N 2 t).toNatClampNeg w (N 1 (12 + t)) (N 0 9) = 0
    · rw [if_pos c]
      by_cases d : nI s >>> (nI t &&& 31) &&& nI 1 = nI 1
      · rw [if_neg (fun y => y.1.2 d)]
        constructor
        · intro y _ z
          exact z.2 y.symm
        · intro y
          have := y (sb.mp d)
          exact Classical.byContradiction (fun z => this ⟨c, fun r => z r.symm⟩)
      · rw [if_pos ⟨⟨c.1, d⟩, c.2⟩]
        exact ⟨fun _ z => absurd (sb.mpr z) d, fun _ => rfl⟩
    · rw [if_neg c, if_neg (fun y => c ⟨y.1.1, y.2⟩)]
      exact ⟨fun _ _ z => c z.1, fun _ => rfl⟩
  · unfold coG
    rw [topA t ht, topB t ht, o3, o3']
    constructor
    · split
      · exact dig t ht _ (hq t)
      · exact dig t ht _ (h6 t ht)
    · split
      · exact dig t ht _ (hq t)
      · exact dig t ht _ (h6 t ht)
end
theorem slU_d {N : mv_Mem} {c R z : Nat} (hz : z ≤ 10) (hc : c ≤ 6) (hR : 0 < R) :
    ((10 - z) ^ c * R) / Nat.gcd ((10 - z) ^ c * R) (10 ^ c * R) = (10 - z) ^ c / (if 0 < gdF 100 ((10 - z) ^ c) (10 ^ c) then gdF 100 ((10 - z) ^ c) (10 ^ c) else 1) ∧
    (10 ^ c * R) / Nat.gcd ((10 - z) ^ c * R) (10 ^ c * R) = 10 ^ c / (if 0 < gdF 100 ((10 - z) ^ c) (10 ^ c) then gdF 100 ((10 - z) ^ c) (10 ^ c) else 1) := by
  have b : 10 ^ c < 2 ^ 20 := by
    have : 10 ^ c ≤ 10 ^ 6 := Nat.pow_le_pow_right (by decide) hc
    exact Nat.lt_of_le_of_lt this (by decide)
  have b0 : 0 < 10 ^ c := Nat.pow_pos (by decide)
  rw [gd_ok 20 100 _ _ b (by decide), if_pos (Nat.gcd_pos_of_pos_right _ b0), Nat.gcd_mul_right]
  exact ⟨Nat.mul_div_mul_right _ _ hR, Nat.mul_div_mul_right _ _ hR⟩
theorem ssF_Sm {X : mv_Mem} {p w n : Nat} {q : Nat → Bool} (h : ∀ t, t < n → ssB X p w t = if q t = true then 1 else 0) : ∀ k, k ≤ n → ssF X p w k = Sm (fun t => if q t = true then 1 else 0) k
  | 0, _ => rfl
  | k + 1, hk => by
    unfold ssF Sm
    rw [ssF_Sm h k (by omega), h k (by omega)]
theorem tw_slips (x y z u : Int32) : twn 126 205 [.ref 0, .int x, .int y, .int z, .int u] := by
  apply twn_of
  intro k sx sn X N hk ox om hR
  have n6 := hR.n6
  have n66 := n6.1
  obtain ⟨nP, hP, x31, y7, eP⟩ := hR.p31
  have e07 : (N 0 7).toNatClampNeg = nP := by rw [y7, q_cl (by omega)]
  have h4 : ∀ t, t < 6 → ∃ h, h < 4 ∧ X (18 + 1) (t * 5 + 0) = nI h := by
    intro t ht
    by_cases c : t < nX X
    · obtain ⟨a, hh, h1, h2⟩ := (hR.cl.1.1 t c).2.1
      exact ⟨hh, h1, a.trans h2⟩
    · exact ⟨0, by decide, hR.cl.1.2 t (by omega) ht⟩
  have px : oX sx ∧ gL X 3 ∧ (∀ t, t < 6 → ∃ h, h < 4 ∧ X (18 + 1) (t * 5 + 0) = nI h) := ⟨ox, hR.lo.1, h4⟩
  have pn : oM sn ∧ gM N ∧ cY N 0 ∧ (∀ p z, z ≤ 10 → 0 < slB N p z) := ⟨om, hR.gm, hR.cy, fun p z hz => slB_pos n6.2.2.2 n66 hz⟩
  have same : ∀ (G : mv_Mem), (∀ c, ¬ c = 1 → G c = N c) → (∀ j, j < 8789 → G 1 j = N 1 j) → RR (k + 1) X G := fun G a b => by
    refine (RR_scr hR (fun _ _ => rfl) hR.st (fun b hb => a b (by omega)) (fun j _ => by rw [a 0 (by decide)]) (fun j hj => b j hj)).up
  by_cases c1 : x < nI 0
  · refine ⟨Int32.ofInt (-1), X, N, fun Q hQ => ?_, fun Q hQ => ?_, hR.up⟩
    · rw [eS126]; exact ⟨x, y, z, u, rfl, px, Qe hQ (if_pos c1) rfl⟩
    · rw [eS205]; exact ⟨x, y, z, u, rfl, pn, Qe hQ (if_pos c1) (if_pos c1)⟩
  by_cases c2 : nI nP ≤ x
  · have c2x : X 3 1 ≤ x := by rw [x31]; exact c2
    have c2n : N 0 7 ≤ x := by rw [y7]; exact c2
    refine ⟨Int32.ofInt (-1), X, N, fun Q hQ => ?_, fun Q hQ => ?_, hR.up⟩
    · rw [eS126]; exact ⟨x, y, z, u, rfl, px, Qe hQ ((if_neg c1).trans (if_pos c2x)) rfl⟩
    · rw [eS205]; exact ⟨x, y, z, u, rfl, pn, Qe hQ ((if_neg c1).trans (if_pos c2n)) ((if_neg c1).trans (if_pos c2n))⟩
  have c2x : ¬ X 3 1 ≤ x := by rw [x31]; exact c2
  have c2n : ¬ N 0 7 ≤ x := by rw [y7]; exact c2
  by_cases c3 : ¬ y = nI 0 ∧ ¬ y = nI 1
  · refine ⟨Int32.ofInt (-1), X, N, fun Q hQ => ?_, fun Q hQ => ?_, hR.up⟩
    · rw [eS126]; exact ⟨x, y, z, u, rfl, px, Qe hQ ((if_neg c1).trans ((if_neg c2x).trans (if_pos c3))) rfl⟩
    · rw [eS205]; exact ⟨x, y, z, u, rfl, pn, Qe hQ ((if_neg c1).trans ((if_neg c2n).trans (if_pos c3))) ((if_neg c1).trans ((if_neg c2n).trans (if_pos c3)))⟩
  by_cases c4 : z < nI 0
  · refine ⟨Int32.ofInt (-1), X, N, fun Q hQ => ?_, fun Q hQ => ?_, hR.up⟩
    · rw [eS126]; exact ⟨x, y, z, u, rfl, px, Qe hQ ((if_neg c1).trans ((if_neg c2x).trans ((if_neg c3).trans (if_pos c4)))) rfl⟩
    · rw [eS205]; exact ⟨x, y, z, u, rfl, pn, Qe hQ ((if_neg c1).trans ((if_neg c2n).trans ((if_neg c3).trans (if_pos c4)))) ((if_neg c1).trans ((if_neg c2n).trans ((if_neg c3).trans (if_pos c4))))⟩
  by_cases c5 : nI 10 < z
  · refine ⟨Int32.ofInt (-1), X, N, fun Q hQ => ?_, fun Q hQ => ?_, hR.up⟩
    · rw [eS126]; exact ⟨x, y, z, u, rfl, px, Qe hQ ((if_neg c1).trans ((if_neg c2x).trans ((if_neg c3).trans ((if_neg c4).trans (if_pos c5))))) rfl⟩
    · rw [eS205]; exact ⟨x, y, z, u, rfl, pn, Qe hQ ((if_neg c1).trans ((if_neg c2n).trans ((if_neg c3).trans ((if_neg c4).trans (if_pos c5))))) ((if_neg c1).trans ((if_neg c2n).trans ((if_neg c3).trans ((if_neg c4).trans (if_pos c5)))))⟩
  by_cases c6 : u < nI 0
  · refine ⟨Int32.ofInt (-1), X, N, fun Q hQ => ?_, fun Q hQ => ?_, hR.up⟩
    · rw [eS126]; exact ⟨x, y, z, u, rfl, px, Qe hQ ((if_neg c1).trans ((if_neg c2x).trans ((if_neg c3).trans ((if_neg c4).trans ((if_neg c5).trans (if_pos c6)))))) rfl⟩
    · rw [eS205]; exact ⟨x, y, z, u, rfl, pn, Qe hQ ((if_neg c1).trans ((if_neg c2n).trans ((if_neg c3).trans ((if_neg c4).trans ((if_neg c5).trans (if_pos c6)))))) ((if_neg c1).trans ((if_neg c2n).trans ((if_neg c3).trans ((if_neg c4).trans ((if_neg c5).trans (if_pos c6))))))⟩
  by_cases c7 : nI 1 < u
  · refine ⟨Int32.ofInt (-1), X, N, fun Q hQ => ?_, fun Q hQ => ?_, hR.up⟩
    · rw [eS126]; exact ⟨x, y, z, u, rfl, px, Qe hQ ((if_neg c1).trans ((if_neg c2x).trans ((if_neg c3).trans ((if_neg c4).trans ((if_neg c5).trans ((if_neg c6).trans (if_pos c7))))))) rfl⟩
    · rw [eS205]; exact ⟨x, y, z, u, rfl, pn, Qe hQ ((if_neg c1).trans ((if_neg c2n).trans ((if_neg c3).trans ((if_neg c4).trans ((if_neg c5).trans ((if_neg c6).trans (if_pos c7))))))) ((if_neg c1).trans ((if_neg c2n).trans ((if_neg c3).trans ((if_neg c4).trans ((if_neg c5).trans ((if_neg c6).trans (if_pos c7)))))))⟩
  obtain ⟨p, hp, rfl, -, ep, -⟩ := pk_mu c1 c2 (by omega)
  obtain ⟨w, hw, rfl⟩ : ∃ w, w < 2 ∧ y = nI w := by
    rcases Classical.em (y = nI 0) with h | h
    · exact ⟨0, by decide, h⟩
    · exact ⟨1, by decide, Classical.byContradiction (fun r => c3 ⟨h, r⟩)⟩
  obtain ⟨s, hs, rfl, es⟩ : ∃ s, s ≤ 10 ∧ z = nI s ∧ z.toNatClampNeg = s := by
    obtain ⟨s, hs, e, -, e2, -⟩ := pk_mu (L := 11) c4 (fun r => c5 (Int32.lt_of_lt_of_le (by decide : nI 10 < nI 11) r)) (by decide)
    exact ⟨s, by omega, e, e2⟩
  have ew : (nI w).toNatClampNeg = w := q_cl (by omega)
  have hss := fun t (ht : t < nX X) => hR.ss (p := p) (w := w) (t := t) (by rw [eP]; exact hp) ht
  obtain ⟨q, hq⟩ : ∃ q : Nat → Bool, ∀ t, q t = (decide (t < nX X) && decide (ssB X p w t = 1)) := ⟨_, fun _ => rfl⟩
  have q1 : ∀ t, t < nX X → (q t = true ↔ shw N p w t) := by
    intro t ht
    rw [hq, decide_eq_true ht, Bool.true_and, decide_eq_true_eq]
    rcases hss t ht with ⟨a, b⟩ | ⟨a, b⟩
    · exact ⟨fun _ => b, fun _ => a⟩
    · exact ⟨fun r => absurd (a.symm.trans r) (by decide), fun r => absurd r b⟩
  have q0 : ∀ t, ¬ t < nX X → q t = false := fun t ht => by rw [hq, decide_eq_false ht, Bool.false_and]
  have qm : ∀ t, q t = true → t < nX X ∧ mB (N 5 p) t = true := by
    intro t r
    have ht : t < nX X := Classical.byContradiction (fun c => by rw [q0 t c] at r; exact absurd r (by decide))
    have b := bit_g (N 5 p) ⟨t, by omega⟩
    dsimp only at b
    exact ⟨ht, b.mp ((q1 t ht).mp r).1.1⟩
  have eU : slU N p w s = Pd (fun t => gq q (N 5 p) (nX X) s t false + gq q (N 5 p) (nX X) s t true) 6 := by
    unfold slU
    rw [n6.2.2.2, slA_Sm, ← Sm_Pd]
    refine Sm_cg _ (fun i hi => ?_)
    have du := hR.du (p := p) (w := w) (s := i) hi
    have g := gq_w (q := q) (a := N 5 p) (n := nX X) (z := s) (s := i)
    by_cases c : ∀ t, t < 6 → i.testBit t = true → q t = false
    · rw [if_pos (du.mpr (fun t ht st r => by have := c t (by omega) st; rw [(q1 t ht).mpr r] at this; exact absurd this (by decide))), slH_w hi n66]
      exact (g.1 c).symm
    · rw [if_neg (fun y => c (fun t ht st => ?_))]
      · exact (g.2 c).symm
      · by_cases d : t < nX X
        · have := du.mp y t d st
          cases e : q t with
          | false => rfl
          | true => exact absurd ((q1 t d).mp e) this
        · exact q0 t d
  have eB : slB N p s = Pd (fun t => gw (N 5 p) (nX X) s t false + gw (N 5 p) (nX X) s t true) 6 := slB_w n6.2.2.2 n66
  obtain ⟨f1, f2, f3⟩ := fc_w (q := q) (a := N 5 p) (n := nX X) hs qm 6
  have eC : ssF X p w (nX X) = Sm (fun t => if q t = true then 1 else 0) 6 := by
    have e1 := ssF_Sm (X := X) (p := p) (w := w) (n := nX X) (q := q) (fun t ht => by
      rcases hss t ht with ⟨a, b⟩ | ⟨a, b⟩
      · rw [a, if_pos ((q1 t ht).mpr b)]
      · rw [a, if_neg (fun r => b ((q1 t ht).mp r))]) _ (Nat.le_refl _)
    have e2 := Sm_0 (f := fun t => if q t = true then 1 else 0) (A := nX X) (6 - nX X) (fun i hi => by
      show (if q i = true then 1 else 0) = 0
      rw [q0 i (by omega)]
      rfl)
    rw [show nX X + (6 - nX X) = 6 by omega] at e2
    rw [e1, e2]
  have hc : Sm (fun t => if q t = true then 1 else 0) 6 ≤ 6 := by
    have := Sm_mo (f := fun t => if q t = true then 1 else 0) (g := fun _ => 1) 6 (fun i _ => by
      show (if q i = true then 1 else 0) ≤ 1
      split <;> decide)
    rw [Sm_k] at this
    exact this
  obtain ⟨d1, d2⟩ := slU_d (N := N) hs hc f3
  rw [← f1, ← f2, ← eU, ← eB, ← eC] at d1 d2
  have hX : slX X p w s u = if u = nI 0 then nI (slU N p w s / Nat.gcd (slU N p w s) (slB N p s)) else nI (slB N p s / Nat.gcd (slU N p w s) (slB N p s)) := by
    unfold slX
    rw [show (X 3 0).toNatClampNeg = nX X from rfl, d1, d2]
  refine ⟨slX X p w s u, X, sqM N (slS N p w) p w (nX X) 64, fun Q hQ => ?_, fun Q hQ => ?_, ?_⟩
  · rw [eS126]
    refine ⟨nI p, nI w, nI s, u, rfl, px, ?_⟩
    rw [ep, ew, es]
    exact Qe hQ ((if_neg c1).trans ((if_neg c2x).trans ((if_neg c3).trans ((if_neg c4).trans ((if_neg c5).trans ((if_neg c6).trans (if_neg c7))))))) rfl
  · rw [eS205]
    refine ⟨nI p, nI w, nI s, u, rfl, pn, ?_⟩
    rw [ep, ew, es, n6.2.2.2]
    exact Qe hQ ((if_neg c1).trans ((if_neg c2n).trans ((if_neg c3).trans ((if_neg c4).trans ((if_neg c5).trans ((if_neg c6).trans ((if_neg c7).trans hX.symm))))))) ((if_neg c1).trans ((if_neg c2n).trans ((if_neg c3).trans ((if_neg c4).trans ((if_neg c5).trans ((if_neg c6).trans (if_neg c7)))))))
  · exact same (sqM N (slS N p w) p w (nX X) 64) (fun c hc => by rw [sqM_out hc]; unfold slS; rw [trY_out hc, cpY_out hc]) (fun j hj => by
      rw [sqM_lo hj]; unfold slS; rw [trY_at _ (by rw [n6.2.2.2]; exact n66) (Or.inl (by omega)), cpY_at (Or.inl hj)])
