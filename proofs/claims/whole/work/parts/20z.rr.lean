/-! ways: paths counted forward and backward -/
def Sm (f : Nat → Nat) : Nat → Nat
  | 0 => 0
  | n + 1 => Sm f n + f n
theorem Sm_cg {f g : Nat → Nat} : ∀ n, (∀ i, i < n → f i = g i) → Sm f n = Sm g n
  | 0, _ => rfl
  | n + 1, h => by
    unfold Sm
    rw [Sm_cg n (fun i hi => h i (by omega)), h n (by omega)]
theorem Sm_z : ∀ n, Sm (fun _ => 0) n = 0
  | 0 => rfl
  | n + 1 => by unfold Sm; rw [Sm_z n]
theorem Sm_ad {f g : Nat → Nat} : ∀ n, Sm (fun i => f i + g i) n = Sm f n + Sm g n
  | 0 => rfl
  | n + 1 => by
    unfold Sm
    rw [Sm_ad n]
    omega
theorem Sm_ml {f : Nat → Nat} {a : Nat} : ∀ n, Sm (fun i => a * f i) n = a * Sm f n
  | 0 => by unfold Sm; rw [Nat.mul_zero]
  | n + 1 => by
    unfold Sm
    rw [Sm_ml n, Nat.mul_add]
theorem Sm_mr {f : Nat → Nat} {a : Nat} (n : Nat) : Sm (fun i => f i * a) n = Sm f n * a := by
  rw [Nat.mul_comm (Sm f n) a, ← Sm_ml]
  exact Sm_cg n (fun i _ => Nat.mul_comm _ _)
theorem Sm_sw {f : Nat → Nat → Nat} {m : Nat} : ∀ n, Sm (fun i => Sm (f i) m) n = Sm (fun j => Sm (fun i => f i j) n) m
  | 0 => by
    show 0 = Sm (fun j => 0) m
    rw [Sm_z]
  | n + 1 => by
    show Sm (fun i => Sm (f i) m) n + Sm (f n) m = Sm (fun j => Sm (fun i => f i j) n + f n j) m
    rw [Sm_ad, Sm_sw n]
theorem Sm_dl {g : Nat → Nat} {x : Nat} : ∀ n, Sm (fun q => if x = q then g q else 0) n = if x < n then g x else 0
  | 0 => rfl
  | n + 1 => by
    unfold Sm
    rw [Sm_dl n]
    by_cases a : x = n
    · subst a
      rw [if_neg (Nat.lt_irrefl _), if_pos rfl, if_pos (by omega), Nat.zero_add]
    · rw [if_neg a, Nat.add_zero]
      by_cases b : x < n
      · rw [if_pos b, if_pos (by omega)]
      · rw [if_neg b, if_neg (by omega)]
theorem Sm_le {f : Nat → Nat} {i : Nat} : ∀ n, i < n → f i ≤ Sm f n
  | 0, h => absurd h (by omega)
  | n + 1, h => by
    unfold Sm
    by_cases a : i = n
    · subst a; omega
    · have := Sm_le (f := f) n (show i < n by omega)
      omega
theorem Sm_mo {f g : Nat → Nat} : ∀ n, (∀ i, i < n → f i ≤ g i) → Sm f n ≤ Sm g n
  | 0, _ => Nat.le_refl _
  | n + 1, h => by
    have := Sm_mo n (fun i hi => h i (by omega))
    have := h n (by omega)
    unfold Sm
    omega
theorem Sm_k {a : Nat} : ∀ n, Sm (fun _ => a) n = n * a
  | 0 => by rw [Nat.zero_mul]; rfl
  | n + 1 => by
    unfold Sm
    rw [Sm_k n, Nat.succ_mul]
/-- the paths of d rows from the j-th on that begin at h -/
def BW (c : Nat → Nat → Nat) (st : Nat → Nat) (m : Nat) : Nat → Nat → Nat → Nat
  | 0, _, _ => 1
  | d + 1, j, h => Sm (fun s => c j (adN h (st s)) * BW c st m d (j + 1) (adN h (st s))) m
/-- one turn more from the numbers f -/
def GW (st : Nat → Nat) (m : Nat) (f : Nat → Nat) (q : Nat) : Nat := Sm (fun p => Sm (fun s => if adN p (st s) = q then f p else 0) m) 4096
/-- the paths of the first k rows from T that end at q -/
def FW (c : Nat → Nat → Nat) (st : Nat → Nat) (m T : Nat) : Nat → Nat → Nat
  | 0, q => if T = q then 1 else 0
  | k + 1, q => c k q * GW st m (FW c st m T k) q
theorem GW_du {st : Nat → Nat} {m : Nat} {f B : Nat → Nat} : Sm (fun q => GW st m f q * B q) 4096 = Sm (fun p => f p * Sm (fun s => B (adN p (st s))) m) 4096 := by
  unfold GW
  have a : Sm (fun q => Sm (fun p => Sm (fun s => if adN p (st s) = q then f p else 0) m) 4096 * B q) 4096 = Sm (fun q => Sm (fun p => Sm (fun s => if adN p (st s) = q then f p * B q else 0) m) 4096) 4096 := by
    refine Sm_cg _ (fun q _ => ?_)
    rw [← Sm_mr]
    refine Sm_cg _ (fun p _ => ?_)
    rw [← Sm_mr]
    refine Sm_cg _ (fun s _ => ?_)
    split
    · rfl
    · rw [Nat.zero_mul]
  rw [a, Sm_sw]
  refine Sm_cg _ (fun p _ => ?_)
  rw [Sm_sw, ← Sm_ml]
  refine Sm_cg _ (fun s _ => ?_)
  rw [Sm_dl (g := fun q => f p * B q), if_pos (adN_lt _ _)]
theorem FW_BW {c : Nat → Nat → Nat} {st : Nat → Nat} {m T n : Nat} (hT : T < 4096) : ∀ k, k ≤ n → Sm (fun q => FW c st m T k q * BW c st m (n - k) k q) 4096 = BW c st m n 0 T
  | 0, _ => by
    have : ∀ q, FW c st m T 0 q * BW c st m (n - 0) 0 q = if T = q then BW c st m n 0 q else 0 := by
      intro q
      unfold FW
      split
      · rw [Nat.one_mul]; rfl
      · rw [Nat.zero_mul]
    rw [Sm_cg _ (fun q _ => this q), Sm_dl, if_pos hT]
  | k + 1, hk => by
    rw [← FW_BW (c := c) (st := st) (m := m) hT k (by omega)]
    have a : ∀ q, FW c st m T (k + 1) q * BW c st m (n - (k + 1)) (k + 1) q = GW st m (FW c st m T k) q * (c k q * BW c st m (n - (k + 1)) (k + 1) q) := by
      intro q
      unfold FW
      rw [Nat.mul_comm (c k q), Nat.mul_assoc]
    rw [Sm_cg _ (fun q _ => a q), GW_du (B := fun q => c k q * BW c st m (n - (k + 1)) (k + 1) q)]
    refine Sm_cg _ (fun p _ => ?_)
    rw [show n - k = (n - (k + 1)) + 1 by omega]
    rfl
theorem GW_to {st : Nat → Nat} {m : Nat} {f : Nat → Nat} : Sm (GW st m f) 4096 = m * Sm f 4096 := by
  have a := GW_du (st := st) (m := m) (f := f) (B := fun _ => 1)
  rw [Sm_cg 4096 (g := GW st m f) (fun q _ => Nat.mul_one _)] at a
  rw [a, ← Sm_ml]
  refine Sm_cg _ (fun p _ => ?_)
  rw [Sm_k, Nat.mul_one, Nat.mul_comm]
theorem FW_to {c : Nat → Nat → Nat} {st : Nat → Nat} {m T : Nat} (hc : ∀ k q, c k q ≤ 1) : ∀ k, Sm (FW c st m T k) 4096 ≤ m ^ k
  | 0 => by
    have : Sm (FW c st m T 0) 4096 = if T < 4096 then 1 else 0 := Sm_dl (g := fun _ => 1) 4096
    rw [this, Nat.pow_zero]
    split <;> decide
  | k + 1 => by
    have ih := FW_to (c := c) (st := st) (m := m) (T := T) hc k
    have a : Sm (FW c st m T (k + 1)) 4096 ≤ Sm (GW st m (FW c st m T k)) 4096 := by
      refine Sm_mo _ (fun q _ => ?_)
      unfold FW
      have := Nat.mul_le_mul_right (GW st m (FW c st m T k) q) (hc k q)
      omega
    rw [GW_to] at a
    rw [Nat.pow_succ, Nat.mul_comm (m ^ k)]
    exact Nat.le_trans a (Nat.mul_le_mul_left _ ih)
theorem BW_to {c : Nat → Nat → Nat} {st : Nat → Nat} {m : Nat} (hc : ∀ k q, c k q ≤ 1) : ∀ d j h, BW c st m d j h ≤ m ^ d
  | 0, _, _ => Nat.le_refl _
  | d + 1, j, h => by
    unfold BW
    have a : Sm (fun s => c j (adN h (st s)) * BW c st m d (j + 1) (adN h (st s))) m ≤ Sm (fun _ => m ^ d) m := by
      refine Sm_mo _ (fun s _ => ?_)
      have e1 := Nat.mul_le_mul_right (BW c st m d (j + 1) (adN h (st s))) (hc j (adN h (st s)))
      have e2 := BW_to (st := st) (m := m) hc d (j + 1) (adN h (st s))
      omega
    rw [Sm_k] at a
    rw [Nat.pow_succ, Nat.mul_comm (m ^ d)]
    exact a
theorem tw6 {m k : Nat} (hm : m ≤ 12) (hk : k ≤ 6) : m ^ k < 2147483648 :=
  Nat.lt_of_le_of_lt (Nat.le_trans (Nat.pow_le_pow_left hm k) (Nat.pow_le_pow_right (by decide) hk)) (by decide : 12 ^ 6 < 2147483648)
theorem Sm_smF {g : Nat → Int32} {f : Nat → Nat} : ∀ n, (∀ i, i < n → g i = nI (f i)) → smF g n = nI (Sm f n)
  | 0, _ => rfl
  | n + 1, h => by
    unfold smF Sm
    rw [Sm_smF n (fun i hi => h i (by omega)), h n (by omega), q_add]
theorem nI_le0 {k : Nat} (h : k < 2147483648) : nI k ≤ nI 0 ↔ k = 0 := by
  rw [nI_leI h (by omega)]
  omega
/-! the class's steps -/
theorem goI_in {i m : Nat} {st f : Nat → Nat} (hf : f i < 2147483648) : ∀ n s {M : mv_Mem} {g : Nat → Nat}, s + n ≤ m → M 58 i = nI (f i) → (∀ s, s < m → st s < 4096 ∧ M 60 s = nI (st s)) → (∀ q, q < 4096 → M 59 q = nI (g q)) →
    ∀ q, q < 4096 → goI 57 i n s M 59 q = nI (g q + Sm (fun u => if adN i (st (s + u)) = q then f i else 0) n)
  | 0, s, M, g, _, _, _, h9 => fun q hq => h9 q hq
  | n + 1, s, M, g, e, h8, h60, h9 => by
    intro q hq
    obtain ⟨s1, s2⟩ := h60 s (by omega)
    have sp : Sm (fun u => if adN i (st (s + u)) = q then f i else 0) (n + 1) = (if adN i (st s) = q then f i else 0) + Sm (fun u => if adN i (st (s + 1 + u)) = q then f i else 0) n := by
      have sh : ∀ (f : Nat → Nat) n, Sm f (n + 1) = f 0 + Sm (fun u => f (u + 1)) n := by
        intro f n
        induction n with
        | zero => show 0 + f 0 = f 0 + 0; omega
        | succ n ih =>
          rw [show Sm f (n + 1 + 1) = Sm f (n + 1) + f (n + 1) from rfl, ih]
          show f 0 + Sm (fun u => f (u + 1)) n + f (n + 1) = f 0 + (Sm (fun u => f (u + 1)) n + f (n + 1))
          omega
      rw [sh]
      refine congrArg _ (Sm_cg _ (fun u _ => ?_))
      rw [show s + (u + 1) = s + 1 + u by omega]
    unfold goI
    rw [show (57 + 1 : Nat) = 58 from rfl, show (57 + 2 : Nat) = 59 from rfl, show M (57 + 3) s = nI (st s) from s2, q_cl (by omega), h8]
    by_cases z : nI (f i) ≤ nI 0
    · rw [if_pos z]
      have f0 := (nI_le0 hf).mp z
      rw [h9 q hq, f0]
      have : Sm (fun u => if adN i (st (s + u)) = q then 0 else 0) (n + 1) = 0 := by
        rw [Sm_cg (g := fun _ => 0) _ (fun u _ => by split <;> rfl), Sm_z]
      rw [this, Nat.add_zero]
    · rw [if_neg z, sp, ← Nat.add_assoc]
      refine goI_in (m := m) hf n (s + 1) (g := fun q => g q + (if adN i (st s) = q then f i else 0)) (by omega) (by rw [q_upO (by decide)]; exact h8) (fun u hu => by rw [q_upO (by decide)]; exact h60 u hu) (fun x hx => ?_) q hq
      have a4 := adN_lt i (st s)
      by_cases w : adN i (st s) = x
      · subst w
        rw [q_upS, h9 _ a4, q_add, if_pos rfl]
      · rw [q_upN (fun y => w y.2.symm), if_neg w, h9 x hx, Nat.add_zero]
theorem goI_fr {i b : Nat} (h : ¬ b = 59) (n s : Nat) (M : mv_Mem) : goI 57 i n s M b = M b := goI_out (a := 57) h n s M
theorem goF_in {m l : Nat} {st f : Nat → Nat} (hf : ∀ i, i < l → f i < 2147483648) : ∀ n i {M : mv_Mem} {g : Nat → Nat}, i + n = l → (∀ j, j < l → M 58 j = nI (f j)) → (∀ s, s < m → st s < 4096 ∧ M 60 s = nI (st s)) → (∀ q, q < 4096 → M 59 q = nI (g q)) → (∀ q, q < 4096 → g q = Sm (fun p => Sm (fun s => if adN p (st s) = q then f p else 0) m) i) →
    ∀ q, q < 4096 → goF 57 m n i M 59 q = nI (Sm (fun p => Sm (fun s => if adN p (st s) = q then f p else 0) m) l)
  | 0, i, M, g, e, _, _, h9, hg => fun q hq => by
    obtain rfl : i = l := by omega
    rw [← hg q hq]
    exact h9 q hq
  | n + 1, i, M, g, e, h8, h60, h9, hg => by
    have step := goI_in (i := i) (m := m) (st := st) (f := f) (g := g) (hf i (by omega)) m 0 (M := M) (by omega) (h8 i (by omega)) h60 h9
    unfold goF
    refine goF_in hf n (i + 1) (g := fun q => g q + Sm (fun s => if adN i (st s) = q then f i else 0) m) (by omega) (fun j hj => by rw [goI_fr (by decide)]; exact h8 j hj) (fun s hs => by rw [goI_fr (by decide)]; exact h60 s hs) (fun q hq => ?_) (fun q hq => ?_)
    · rw [step q hq]
      congr 2
      exact Sm_cg _ (fun u _ => by rw [Nat.zero_add])
    · show g q + _ = _
      rw [hg q hq]
      rfl
theorem moM_58 {M : mv_Mem} {i : Nat} (hi : i < 4096) : moM M 57 58 i = M 59 i := by
  unfold moM
  rw [fiM_out (by decide), show (57 + 1 : Nat) = 58 from rfl, q_wrS]
  unfold va_cpy
  simp only [Nat.zero_le, Nat.zero_add, Nat.sub_zero, true_and, hi, if_true]
theorem ktF_in {M : mv_Mem} {v : Nat} {f : Nat → Nat} {c : Nat → Nat} (hc : ∀ q, c q = 0 ∨ c q = 1) (hs : ∀ q, q < 4096 → (shB M 3 (nI q) v = 1 ↔ c q = 1)) (h9 : ∀ q, q < 4096 → M 59 q = nI (f q)) : ∀ n, n ≤ 4096 → ∀ q, q < 4096 → ktF M 57 3 v n 59 q = if q < n then nI (c q * f q) else nI (f q)
  | 0, _, q, hq => by
    rw [if_neg (by omega)]
    exact h9 q hq
  | n + 1, hn, q, hq => by
    have ih := ktF_in (M := M) (v := v) hc hs h9 n (by omega) q hq
    unfold ktF
    rw [show (57 + 2 : Nat) = 59 from rfl]
    by_cases w : q = n
    · subst w
      rw [if_neg (Nat.lt_irrefl _)] at ih
      rw [if_pos (show q < q + 1 by omega)]
      by_cases z : M 59 q = nI 0
      · rw [if_pos z, ih, ← h9 q hq, z]
        rw [h9 q hq] at z
        rcases hc q with e | e
        · rw [e, Nat.zero_mul]
        · rw [e, Nat.one_mul, z]
      · rw [if_neg z]
        by_cases y : shB M 3 (nI q) v = 1
        · rw [if_pos y, ih, (hs q hq).mp y, Nat.one_mul]
        · rw [if_neg y, q_upS]
          rcases hc q with e | e
          · rw [e, Nat.zero_mul]
          · exact absurd ((hs q hq).mpr e) y
    · have same : (if q < n + 1 then nI (c q * f q) else nI (f q)) = if q < n then nI (c q * f q) else nI (f q) := by
        by_cases a : q < n
        · rw [if_pos a, if_pos (by omega)]
        · rw [if_neg a, if_neg (by omega)]
      rw [same, ← ih]
      split
      · rfl
      split
      · rfl
      · exact q_upN (fun y => w y.2)
