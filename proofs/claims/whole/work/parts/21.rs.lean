/-! ways and lies: class and model alike -/
theorem goM_in {M : mv_Mem} {m : Nat} {st f : Nat → Nat} (hf : ∀ i, i < 4096 → f i < 2147483648) (h60 : ∀ s, s < m → st s < 4096 ∧ M 60 s = nI (st s)) (h9 : ∀ q, q < 4096 → M 59 q = nI (f q)) : ∀ q, q < 4096 → goM M 57 m 59 q = nI (GW st m f q) := by
  unfold goM GW
  refine goF_in (g := fun _ => 0) hf 4096 0 (Nat.zero_add _) (fun j hj => by rw [moM_58 hj]; exact h9 j hj) (fun s hs => by rw [moM_out (by decide) (by decide)]; exact h60 s hs) (fun q hq => ?_) (fun q _ => rfl)
  unfold moM
  exact fi_z _ hq
theorem wy_in {X : mv_Mem} {c : Nat → Nat → Nat} {st : Nat → Nat} {m T N0 : Nat} (hm : m ≤ 12) (hN0 : N0 ≤ 6) (hc : ∀ k q, c k q = shB X 3 (nI q) (X 56 k).toNatClampNeg) : ∀ n k {M : mv_Mem}, k + n = N0 → M 3 = X 3 → M 6 = X 6 → M 56 = X 56 → (∀ s, s < m → st s < 4096 ∧ M 60 s = nI (st s)) → (∀ q, q < 4096 → M 59 q = nI (FW c st m T k q)) →
    ∀ q, q < 4096 → wyI 57 3 56 m n k M 59 q = nI (FW c st m T N0 q)
  | 0, k, M, e, _, _, _, _, h9 => fun q hq => by
    obtain rfl : k = N0 := by omega
    exact h9 q hq
  | n + 1, k, M, e, h3, h6, h56, h60, h9 => by
    have c01 : ∀ k q, c k q = 0 ∨ c k q = 1 := fun k q => by rw [hc]; exact shF_01 _ _ _
    have c1 : ∀ k q, c k q ≤ 1 := fun k q => by have := c01 k q; omega
    have bd : ∀ i, i < 4096 → FW c st m T k i < 2147483648 := fun i hi => Nat.lt_of_le_of_lt (Nat.le_trans (Sm_le _ hi) (FW_to c1 k)) (tw6 hm (by omega))
    have g := goM_in bd h60 h9
    have g3 : goM M 57 m 3 = X 3 := (goM_out (by decide) (by decide)).trans h3
    have g6 : goM M 57 m 6 = X 6 := (goM_out (by decide) (by decide)).trans h6
    have kt := ktF_in (M := goM M 57 m) (v := (M 56 k).toNatClampNeg) (f := GW st m (FW c st m T k)) (c := c k) (c01 k) (fun q _ => by rw [hc, h56, shB_of (M := X) (N := goM M 57 m) g3 g6]) g 4096 (Nat.le_refl _)
    unfold wyI
    refine wy_in hm hN0 hc n (k + 1) (by omega) ?_ ?_ ?_ (fun s hs => ?_) (fun q hq => ?_)
    · rw [ktF_out (by decide)]; exact g3
    · rw [ktF_out (by decide)]; exact g6
    · rw [ktF_out (by decide), goM_out (by decide) (by decide)]; exact h56
    · rw [ktF_out (by decide), goM_out (by decide) (by decide)]; exact h60 s hs
    · rw [kt q hq, if_pos hq]
      rfl
theorem wyI_O {b m : Nat} (h1 : ¬ b = 58) (h2 : ¬ b = 59) : ∀ n k (M : mv_Mem), wyI 57 3 56 m n k M b = M b
  | 0, _, _ => rfl
  | n + 1, k, M => by
    unfold wyI
    rw [wyI_O h1 h2 n, ktF_out h2, goM_out h1 h2]
theorem wo_in {M : mv_Mem} {A h m : Nat} {x : Int32} {st f c : Nat → Nat} (hA : ∃ n, n ≤ 6 ∧ A = 4 ^ n) (hh : h < A) (h15 : ∀ s, s < m → st s < A ∧ M 15 s = nI (st s)) (h22 : ∀ q, q < A → M 22 q = nI (f q)) (h16 : ∀ q, q < A → (M 16 q = x ↔ c q = 1)) (hc : ∀ q, c q = 0 ∨ c q = 1) :
    ∀ s, s ≤ m → woF M h x s = nI (Sm (fun u => c (adN h (st u)) * f (adN h (st u))) s)
  | 0, _ => rfl
  | s + 1, hs => by
    have ih := wo_in hA hh h15 h22 h16 hc s (by omega)
    obtain ⟨s1, s2⟩ := h15 s (by omega)
    obtain ⟨n, hn, eA⟩ := hA
    have p4 := p4_le hn
    have ea : plN h (st s) = adN h (st s) := (adN_pl (by omega) (by omega)).symm
    have la : adN h (st s) < A := by
      rw [← ea, eA]
      rw [eA] at hh s1
      exact plN_lt hn hh s1
    unfold woF Sm
    rw [s2, q_cl (by omega), ea, ih, h22 _ la]
    rcases hc (adN h (st s)) with e | e
    · rw [if_neg (fun y => absurd ((h16 _ la).mp y) (by omega)), e, Nat.zero_mul, Nat.add_zero]
    · rw [if_pos ((h16 _ la).mpr e), e, Nat.one_mul, q_add]
theorem lw_in {L : mv_Mem} {A m n : Nat} {st : Nat → Nat} {c : Nat → Nat → Nat} (hA : ∃ n, n ≤ 6 ∧ A = 4 ^ n) (h15 : ∀ s, s < m → st s < A ∧ L 15 s = nI (st s)) (h16 : ∀ k, k < n → ∀ q, q < A → (L 16 q = L 8 k ↔ c k q = 1)) (hc : ∀ k q, c k q = 0 ∨ c k q = 1) (h32 : L 0 32 = nI A) (h7 : 2 * (L 0 7).toNatClampNeg = m) :
    ∀ k {M : mv_Mem}, k ≤ n → (∀ b, ¬ b = 22 → ¬ b = 23 → M b = L b) → (∀ h, h < A → M 22 h = nI (BW c st m (n - k) k h)) → ∀ h, h < A → lwF 8 k M 22 h = nI (BW c st m n 0 h)
  | 0, M, _, _, h22 => h22
  | k + 1, M, hk, hM, h22 => by
    obtain ⟨n6, hn, eA⟩ := id hA
    have p4 := p4_le hn
    have e0 := hM 0 (by decide) (by decide)
    have e8 := hM 8 (by decide) (by decide)
    have e15 := hM 15 (by decide) (by decide)
    have e16 := hM 16 (by decide) (by decide)
    have e32 : (M 0 32).toNatClampNeg = A := by rw [e0, h32, q_cl (by omega)]
    unfold lwF
    refine lw_in hA h15 h16 hc h32 h7 k (by omega) (fun b b1 b2 => ?_) (fun h hh => ?_)
    · unfold wsM
      rw [caF_out b1, thF_out b2]
      exact hM b b1 b2
    · unfold wsM
      rw [e32, caF_in _ hh, thF_in _ hh, e0, h7, wo_in (M := M) (A := A) (h := h) (m := m) (x := M 8 k) (st := st) (f := BW c st m (n - (k + 1)) (k + 1)) (c := c k) hA hh (fun s hs => by rw [e15]; exact h15 s hs) h22 (fun q hq => by rw [e16, e8]; exact h16 k (by omega) q hq) (hc k) m (Nat.le_refl _), show n - k = (n - (k + 1)) + 1 by omega]
      rfl
section
variable {k : Nat} {X N : mv_Mem}
theorem sh_ne (h : RR k X N) {x v : Nat} (hv : v < 1000000) : shY N x (nX X) = nI v ↔ shB X 3 (nI x) v = 1 := by
  have n6 := h.n6.1
  have d := h.dg (nI x)
  have e : shY N x (nX X) = clF (fun t => X (3 + 3) (t * 4 + (hlF (nI x) t).toNatClampNeg)) (nX X) := clF_cong _ (fun t ht => (d t ht).2.symm)
  have t10 := ten_n n6
  obtain ⟨c1, c2⟩ := clF_N (g := fun t => X (3 + 3) (t * 4 + (hlF (nI x) t).toNatClampNeg)) (nX X) n6 (fun t ht => (d t ht).1)
  have s := shF_N (g := fun t => X (3 + 3) (t * 4 + (hlF (nI x) t).toNatClampNeg)) (nX X) n6 (fun t ht => (d t ht).1) v
  rw [e, c1]
  unfold shB
  rw [show (X 3 0).toNatClampNeg = nX X from rfl, s]
  constructor
  · intro y
    exact (nI_inj y (by omega) (by omega)).symm
  · intro y
    rw [y]
/-- the rows seen, in class and model -/
theorem RR.cc (h : RR k X N) {n : Nat} (hn : n ≤ 6) (e : ∀ i, i < n → ∃ v, v < 1000000 ∧ X 56 i = nI v ∧ N 8 i = nI v) : ∀ i, i < n → ∀ q, q < 4 ^ nX X → (lhM N 16 q = lhM N 8 i ↔ shB X 3 (nI q) (X 56 i).toNatClampNeg = 1) := by
  intro i hi q hq
  obtain ⟨v, v1, v2, v3⟩ := e i hi
  rw [lh_s16 h hq, lhM_out (by decide) (by decide) (by decide) (by decide), v3, v2, q_cl (by omega)]
  exact sh_ne h v1
/-- the model's numbers of ways -/
theorem RR.lw (h : RR k X N) {n : Nat} {st : Nat → Nat} (hn : n ≤ 6) (en : N 0 14 = nI n) (e : ∀ i, i < n → ∃ v, v < 1000000 ∧ X 56 i = nI v ∧ N 8 i = nI v)
    (hst : ∀ i, i < 2 * (X 3 1).toNatClampNeg → st i < 4 ^ nX X ∧ lhM N 15 i = nI (st i) ∧ tsF X 57 3 (nX X) (X 3 1).toNatClampNeg 60 i = nI (st i)) :
    ∀ q, q < 4 ^ nX X → lwM N 22 q = nI (BW (fun k q => shB X 3 (nI q) (X 56 k).toNatClampNeg) st (2 * (X 3 1).toNatClampNeg) n 0 q) := by
  have n6 := h.n6
  obtain ⟨-, hP6, e7⟩ := h.ep
  obtain ⟨g, -⟩ := h.sg
  unfold lwM
  rw [en, q_cl (by omega), n6.2.2.2]
  exact lw_in (L := lhM N) (n := n) ⟨_, n6.1, rfl⟩ (fun s hs => ⟨(hst s hs).1, (hst s hs).2.1⟩) (h.cc hn e) (fun k q => shF_01 _ _ _) g.1 (by rw [lhM_0 (by decide), e7]) n (Nat.le_refl _) (fun b b1 _ => fiM_out b1 _) (fun q hq => by rw [fi_z _ hq, Nat.sub_self]; rfl)
theorem RR.lO (h : RR k X N) : (∀ c, ¬ c = 0 → ¬ c = 1 → ¬ (15 ≤ c ∧ c ≤ 23) → lwM N c = N c) ∧ (∀ j, j < 15 → lwM N 0 j = N 0 j) ∧ lwM N 1 = N 1 :=
  ⟨fun c h0 h1 h2 => lwM_out h0 (by omega) (by omega) (by omega) (by omega) (by omega), fun j hj => lwM_0 (by omega), lwM_out (by decide) (by decide) (by decide) (by decide) (by decide) (by decide)⟩
end
theorem tw_ways : twn 136 212 [.ref 0] := by
  apply twn_of
  intro k sx sn X N hk ox om hR
  have n6 := hR.n6
  have p4 := p4_le n6.1
  obtain ⟨et, T, hT, hT2, eT⟩ := hR.tops
  obtain ⟨eE, hP6, e7⟩ := hR.ep
  obtain ⟨g, st, hst⟩ := hR.sg
  obtain ⟨n, hn, x11, y14, hse⟩ := hR.se
  have c11 : (X 0 11).toNatClampNeg = n := by rw [x11, q_cl (by omega)]
  have px : oX sx ∧ gL X 3 ∧ sT X 57 ∧ (∃ n, n < 7 ∧ X 0 11 = nI n) ∧ (∀ i, i < (X 0 11).toNatClampNeg → ∃ v, v < 2147483648 ∧ X 56 i = nI v) ∧ (∃ k, k < 4096 ∧ tpX X 18 = nI k) :=
    ⟨ox, hR.lo.1, hR.st, ⟨n, by omega, x11⟩, fun i hi => by obtain ⟨v, v1, v2, -⟩ := hse i (by omega); exact ⟨v, by omega, v2⟩, T, hT2, et.trans eT⟩
  have pn : oM sn ∧ gM N ∧ cY N 0 ∧ (∃ n, n ≤ 6 ∧ N 0 14 = nI n) := ⟨om, hR.gm, hR.cy, n, hn, y14⟩
  have lw := hR.lw hn y14 hse hst T hT
  have c01 : ∀ k q, (fun k q => shB X 3 (nI q) (X 56 k).toNatClampNeg) k q ≤ 1 := fun k q => by
    have := shF_01 (fun t => X (3 + 3) (t * 4 + (hlF (nI q) t).toNatClampNeg)) (X 3 0).toNatClampNeg (X 56 k).toNatClampNeg
    show shB X 3 (nI q) (X 56 k).toNatClampNeg ≤ 1
    unfold shB
    omega
  have eW : wyM X 57 3 T 56 n = wyI 57 3 56 (2 * (X 3 1).toNatClampNeg) n 0 (mv_up (fiM (tsF X 57 3 (nX X) (X 3 1).toNatClampNeg) 59 (nI 0) 4096) 59 T (nI 1)) := rfl
  have wy := wy_in (X := X) (c := fun k q => shB X 3 (nI q) (X 56 k).toNatClampNeg) (st := st) (m := 2 * (X 3 1).toNatClampNeg) (T := T) (N0 := n) (by omega) hn (fun _ _ => rfl) n 0 (M := mv_up (fiM (tsF X 57 3 (nX X) (X 3 1).toNatClampNeg) 59 (nI 0) 4096) 59 T (nI 1)) (by omega)
    (by rw [q_upO (by decide), fiM_out (by decide), tsF_out (by decide)]) (by rw [q_upO (by decide), fiM_out (by decide), tsF_out (by decide)]) (by rw [q_upO (by decide), fiM_out (by decide), tsF_out (by decide)])
    (fun s hs => ⟨by have := (hst s hs).1; omega, by rw [q_upO (by decide), fiM_out (by decide)]; exact (hst s hs).2.2⟩)
    (fun q hq => by
      unfold FW
      by_cases z : T = q
      · subst z; rw [q_upS, if_pos rfl]
      · rw [q_upN (fun y => z y.2.symm), fi_z _ hq, if_neg z])
  rw [← eW] at wy
  have hf : smX (wyM X 57 3 T 56 n) 57 = lwM N 22 T := by
    have f := FW_BW (c := fun k q => shB X 3 (nI q) (X 56 k).toNatClampNeg) (st := st) (m := 2 * (X 3 1).toNatClampNeg) (n := n) hT2 n (Nat.le_refl _)
    unfold smX
    rw [show (57 + 2 : Nat) = 59 from rfl, Sm_smF 4096 wy, lw, ← f]
    refine congrArg nI (Sm_cg _ (fun q _ => ?_))
    rw [Nat.sub_self]
    unfold BW
    rw [Nat.mul_one]
  refine ⟨lwM N 22 T, wyM X 57 3 T 56 n, lwM N, fun Q hQ => ?_, fun Q hQ => ?_, ?_⟩
  · rw [eS136]
    refine ⟨rfl, px, ?_⟩
    rw [c11, et, eT, q_cl (show T < 2147483648 by omega), hf]
    exact hQ
  · rw [eS212]
    refine ⟨rfl, pn, ?_⟩
    rw [eT, q_cl (show T < 2147483648 by omega)]
    exact hQ
  · obtain ⟨z1, z2, z3⟩ := hR.lO
    refine hR.ap ⟨fun b h0 h1 h2 h3 => ?_, ?_⟩ z1 z2 z3
    · rw [eW, wyI_O h1 h2, q_upO h2, fiM_out h2, tsF_out h3]
    · refine sT_of (M := tsF X 57 3 (nX X) (X 3 1).toNatClampNeg) (sT_ts hR.st n6.1 _) ?_
      rw [eW, wyI_O (by decide) (by decide), q_upO (by decide), fiM_out (by decide)]
