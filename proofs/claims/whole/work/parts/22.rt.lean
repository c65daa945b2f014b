/-! lies -/
/-- the marks f tell P -/
def RE (f : Nat → Int32) (P : Nat → Prop) : Prop := ∀ q, q < 4096 → (P q → f q = nI 1) ∧ (¬ P q → f q = nI 0)
theorem RE.co {f : Nat → Int32} {P Q : Nat → Prop} (h : RE f P) (e : ∀ q, q < 4096 → (P q ↔ Q q)) : RE f Q :=
  fun q hq => ⟨fun y => (h q hq).1 ((e q hq).mpr y), fun y => (h q hq).2 (fun z => y ((e q hq).mp z))⟩
def a3 (i g : Nat) : Nat := adN (adN (adN i g) g) g
theorem gbI_in {i m : Nat} {st f : Nat → Nat} (hf : f i < 2147483648) : ∀ n s {M : mv_Mem} {P : Nat → Prop}, s + n ≤ m → M 58 i = nI (f i) → (∀ s, s < m → st s < 4096 ∧ M 60 s = nI (st s)) → RE (M 59) P →
    RE (gbI 57 i n s M 59) (fun q => P q ∨ (0 < f i ∧ ∃ u, s ≤ u ∧ u < s + n ∧ a3 i (st u) = q))
  | 0, s, M, P, _, _, _, h9 => h9.co (fun q _ => ⟨Or.inl, fun y => y.elim id (fun ⟨_, u, u1, u2, _⟩ => absurd u1 (by omega))⟩)
  | n + 1, s, M, P, e, h8, h60, h9 => by
    obtain ⟨s1, s2⟩ := h60 s (by omega)
    unfold gbI
    rw [show (57 + 1 : Nat) = 58 from rfl, show (57 + 2 : Nat) = 59 from rfl, show M (57 + 3) s = nI (st s) from s2, q_cl (by omega), h8]
    by_cases z : nI (f i) ≤ nI 0
    · rw [if_pos z]
      have f0 := (nI_le0 hf).mp z
      exact h9.co (fun q _ => ⟨Or.inl, fun y => y.elim id (fun ⟨w, _⟩ => absurd w (by omega))⟩)
    · rw [if_neg z]
      have f1 : 0 < f i := Nat.pos_of_ne_zero (fun y => z ((nI_le0 hf).mpr y))
      have r := gbI_in (i := i) (m := m) (st := st) (f := f) hf n (s + 1) (M := mv_up M 59 (a3 i (st s)) (nI 1)) (P := fun q => P q ∨ q = a3 i (st s)) (by omega) (by rw [q_upO (by decide)]; exact h8) (fun u hu => by rw [q_upO (by decide)]; exact h60 u hu) (fun q hq => ?_)
      · refine r.co (fun q _ => ?_)
        constructor
        · rintro ((y | y) | ⟨y1, u, u1, u2, u3⟩)
          · exact Or.inl y
          · exact Or.inr ⟨f1, s, Nat.le_refl _, by omega, y.symm⟩
          · exact Or.inr ⟨y1, u, by omega, by omega, u3⟩
        · rintro (y | ⟨y1, u, u1, u2, u3⟩)
          · exact Or.inl (Or.inl y)
          · by_cases w : u = s
            · subst w; exact Or.inl (Or.inr u3.symm)
            · exact Or.inr ⟨y1, u, by omega, by omega, u3⟩
      · by_cases w : q = a3 i (st s)
        · subst w
          rw [q_upS]
          exact ⟨fun _ => rfl, fun y => absurd (Or.inr rfl) y⟩
        · rw [q_upN (fun y => w y.2)]
          exact ⟨fun y => (h9 q hq).1 (y.resolve_right w), fun y => (h9 q hq).2 (fun z => y (Or.inl z))⟩
theorem gbF_in {m l : Nat} {st f : Nat → Nat} (hf : ∀ i, i < l → f i < 2147483648) : ∀ n i {M : mv_Mem} {P : Nat → Prop}, i + n = l → (∀ j, j < l → M 58 j = nI (f j)) → (∀ s, s < m → st s < 4096 ∧ M 60 s = nI (st s)) → RE (M 59) P →
    RE (gbF 57 m n i M 59) (fun q => P q ∨ ∃ j, i ≤ j ∧ j < l ∧ 0 < f j ∧ ∃ u, u < m ∧ a3 j (st u) = q)
  | 0, i, M, P, e, _, _, h9 => h9.co (fun q _ => ⟨Or.inl, fun y => y.elim id (fun ⟨j, u1, u2, _⟩ => absurd u1 (by omega))⟩)
  | n + 1, i, M, P, e, h8, h60, h9 => by
    have step := gbI_in (i := i) (m := m) (st := st) (f := f) (hf i (by omega)) m 0 (M := M) (by omega) (h8 i (by omega)) h60 h9
    unfold gbF
    have r := gbF_in (m := m) (l := l) (st := st) hf n (i + 1) (by omega) (fun j hj => by rw [gbI_out (by decide)]; exact h8 j hj) (fun s hs => by rw [gbI_out (by decide)]; exact h60 s hs) step
    refine r.co (fun q _ => ?_)
    constructor
    · rintro ((y | ⟨y1, u, -, u2, u3⟩) | ⟨j, j1, j2, j3⟩)
      · exact Or.inl y
      · exact Or.inr ⟨i, Nat.le_refl _, by omega, y1, u, by omega, u3⟩
      · exact Or.inr ⟨j, by omega, j2, j3⟩
    · rintro (y | ⟨j, j1, j2, j3, u, u2, u3⟩)
      · exact Or.inl (Or.inl y)
      · by_cases w : j = i
        · subst w; exact Or.inl (Or.inr ⟨j3, u, Nat.zero_le _, by omega, u3⟩)
        · exact Or.inr ⟨j, by omega, j2, j3, u, u2, u3⟩
theorem gbM_in {M : mv_Mem} {m : Nat} {st f : Nat → Nat} (hf : ∀ i, i < 4096 → f i < 2147483648) (h60 : ∀ s, s < m → st s < 4096 ∧ M 60 s = nI (st s)) (h9 : ∀ q, q < 4096 → M 59 q = nI (f q)) : RE (gbM M 57 m 59) (fun q => ∃ j, j < 4096 ∧ 0 < f j ∧ ∃ u, u < m ∧ a3 j (st u) = q) := by
  unfold gbM
  have r := gbF_in (m := m) (l := 4096) (st := st) (f := f) hf 4096 0 (M := moM M 57) (P := fun _ => False) (Nat.zero_add _) (fun j hj => by rw [moM_58 hj]; exact h9 j hj) (fun s hs => by rw [moM_out (by decide) (by decide)]; exact h60 s hs) (fun q hq => ⟨fun h => h.elim, fun _ => by unfold moM; exact fi_z _ hq⟩)
  exact r.co (fun q _ => ⟨fun y => by obtain ⟨j, -, j2, j3⟩ := y.resolve_left id; exact ⟨j, j2, j3⟩, fun ⟨j, j2, j3⟩ => Or.inr ⟨j, Nat.zero_le _, j2, j3⟩⟩)
theorem Sm_pos {f : Nat → Nat} : ∀ n, 0 < Sm f n ↔ ∃ i, i < n ∧ 0 < f i
  | 0 => ⟨fun h => absurd h (by unfold Sm; omega), fun ⟨i, h, _⟩ => absurd h (by omega)⟩
  | n + 1 => by
    have ih := Sm_pos (f := f) n
    unfold Sm
    constructor
    · intro h
      by_cases a : 0 < Sm f n
      · obtain ⟨i, i1, i2⟩ := ih.mp a
        exact ⟨i, by omega, i2⟩
      · exact ⟨n, by omega, by omega⟩
    · rintro ⟨i, i1, i2⟩
      by_cases a : i = n
      · subst a; omega
      · have := ih.mpr ⟨i, by omega, i2⟩
        omega
/-- beginnings from which the rows from the j-th on can come -/
def cB (c : Nat → Nat → Nat) (st : Nat → Nat) (m A d j q : Nat) : Nat := if q < A ∧ 0 < BW c st m d j q then 1 else 0
theorem cB_bk {c : Nat → Nat → Nat} {st : Nat → Nat} {m n d j : Nat} (hn : n ≤ 6) (hst : ∀ s, s < m → st s < 4 ^ n) (q : Nat) (hq : q < 4096) :
    (∃ i, i < 4096 ∧ 0 < c j i * cB c st m (4 ^ n) d (j + 1) i ∧ ∃ u, u < m ∧ a3 i (st u) = q) ↔ (q < 4 ^ n ∧ 0 < BW c st m (d + 1) j q) := by
  have p4 := p4_le hn
  have cl : ∀ x g, x < 4 ^ n → g < 4 ^ n → adN x g < 4 ^ n := fun x g hx hg => by
    rw [adN_pl (by omega) (by omega)]
    exact plN_lt hn hx hg
  unfold BW
  rw [Sm_pos]
  constructor
  · rintro ⟨i, i1, i2, u, u1, rfl⟩
    have c1 : 0 < c j i := Nat.pos_of_mul_pos_right i2
    have c2 : 0 < cB c st m (4 ^ n) d (j + 1) i := Nat.pos_of_mul_pos_left i2
    unfold cB at c2
    split at c2
    · rename_i w
      have g := hst u u1
      refine ⟨cl _ _ (cl _ _ (cl _ _ w.1 g) g) g, u, u1, ?_⟩
      show 0 < c j (adN (a3 i (st u)) (st u)) * BW c st m d (j + 1) (adN (a3 i (st u)) (st u))
      rw [show adN (a3 i (st u)) (st u) = i from adN_4 (st u) i1]
      exact Nat.mul_pos c1 w.2
    · exact absurd c2 (by omega)
  · rintro ⟨q1, u, u1, u2⟩
    have g := hst u u1
    have c1 := Nat.pos_of_mul_pos_right u2
    have c2 := Nat.pos_of_mul_pos_left u2
    have w := cl _ _ q1 g
    refine ⟨adN q (st u), adN_lt _ _, ?_, u, u1, ?_⟩
    · unfold cB
      rw [if_pos ⟨w, c2⟩, Nat.mul_one]
      exact c1
    · exact adN_4 (st u) hq
theorem cd_in {X : mv_Mem} {c : Nat → Nat → Nat} {st : Nat → Nat} {m n N0 : Nat} (hn : n ≤ 6) (hst : ∀ s, s < m → st s < 4 ^ n) (hc : ∀ k q, c k q = shB X 3 (nI q) (X 56 k).toNatClampNeg) : ∀ k {M : mv_Mem}, k ≤ N0 → M 3 = X 3 → M 6 = X 6 → M 56 = X 56 → (∀ s, s < m → st s < 4096 ∧ M 60 s = nI (st s)) → (∀ q, q < 4096 → M 59 q = nI (cB c st m (4 ^ n) (N0 - k) k q)) →
    ∀ q, q < 4096 → cdI 57 3 56 m k M 59 q = nI (cB c st m (4 ^ n) N0 0 q)
  | 0, M, _, _, _, _, _, h9 => h9
  | k + 1, M, hk, h3, h6, h56, h60, h9 => by
    have c01 : ∀ k q, c k q = 0 ∨ c k q = 1 := fun k q => by rw [hc]; exact shF_01 _ _ _
    have cb1 : ∀ d j q, cB c st m (4 ^ n) d j q ≤ 1 := fun d j q => by unfold cB; split <;> omega
    have kt := ktF_in (M := M) (v := (M 56 k).toNatClampNeg) (f := cB c st m (4 ^ n) (N0 - (k + 1)) (k + 1)) (c := c k) (c01 k) (fun q _ => by rw [hc, h56, shB_of (M := X) (N := M) h3 h6]) h9 4096 (Nat.le_refl _)
    have g := gbM_in (M := ktF M 57 3 (M 56 k).toNatClampNeg 4096) (m := m) (st := st) (f := fun q => c k q * cB c st m (4 ^ n) (N0 - (k + 1)) (k + 1) q)
      (fun i _ => Nat.lt_of_le_of_lt (Nat.mul_le_mul (show c k i ≤ 1 by have := c01 k i; omega) (cb1 _ _ i)) (by decide)) (fun s hs => by rw [ktF_out (by decide)]; exact h60 s hs) (fun q hq => by rw [kt q hq, if_pos hq])
    unfold cdI
    refine cd_in hn hst hc k (by omega) ?_ ?_ ?_ (fun s hs => ?_) (fun q hq => ?_)
    · rw [gbM_out (by decide) (by decide), ktF_out (by decide)]; exact h3
    · rw [gbM_out (by decide) (by decide), ktF_out (by decide)]; exact h6
    · rw [gbM_out (by decide) (by decide), ktF_out (by decide)]; exact h56
    · rw [gbM_out (by decide) (by decide), ktF_out (by decide)]; exact h60 s hs
    · have gq := g q hq
      have eq := cB_bk (c := c) (st := st) (m := m) (d := N0 - (k + 1)) (j := k) hn hst q hq
      rw [show N0 - (k + 1) + 1 = N0 - k by omega] at eq
      unfold cB
      by_cases w : q < 4 ^ n ∧ 0 < BW c st m (N0 - k) k q
      · rw [if_pos w]
        exact gq.1 (eq.mpr w)
      · rw [if_neg w]
        exact gq.2 (fun y => w (eq.mp y))
theorem cdI_O {b m : Nat} (h1 : ¬ b = 58) (h2 : ¬ b = 59) : ∀ k (M : mv_Mem), cdI 57 3 56 m k M b = M b
  | 0, _ => rfl
  | k + 1, M => by
    unfold cdI
    rw [cdI_O h1 h2 k, gbM_out h1 h2, ktF_out h2]
theorem csF_in {M : mv_Mem} {m q : Nat} : ∀ n, q < n → csF M 57 m n 59 q = nI (if q < m then 1 else 0)
  | 0, h => absurd h (by omega)
  | n + 1, h => by
    unfold csF
    rw [show (57 + 2 : Nat) = 59 from rfl]
    by_cases z : q = n
    · subst z; rw [q_upS]
    · rw [q_upN (fun w => z w.2)]
      exact csF_in n (by omega)
theorem Sm_0 {f : Nat → Nat} {A : Nat} : ∀ n, (∀ i, A ≤ i → f i = 0) → Sm f (A + n) = Sm f A
  | 0, _ => rfl
  | n + 1, h => by
    show Sm f (A + n) + f (A + n) = Sm f A
    rw [Sm_0 n h, h (A + n) (by omega), Nat.add_zero]
theorem psF_Sm {g : Nat → Int32} {f : Nat → Nat} : ∀ n, (∀ i, i < n → (nI 0 < g i ↔ 0 < f i)) → psF g n = Sm (fun i => if 0 < f i then 1 else 0) n
  | 0, _ => rfl
  | n + 1, h => by
    have a := h n (by omega)
    unfold psF Sm
    rw [psF_Sm n (fun i hi => h i (by omega))]
    by_cases c : 0 < f n
    · rw [if_pos (a.mpr c), if_pos c]
    · rw [if_neg (fun y => c (a.mp y)), if_neg c]
theorem tw_lies : twn 115 199 [.ref 0] := by
  apply twn_of
  intro k sx sn X N hk ox om hR
  have n6 := hR.n6
  have p4 := p4_le n6.1
  obtain ⟨eE, hP6, e7⟩ := hR.ep
  obtain ⟨g, st, hst⟩ := hR.sg
  obtain ⟨n, hn, x11, y14, hse⟩ := hR.se
  have c11 : (X 0 11).toNatClampNeg = n := by rw [x11, q_cl (by omega)]
  have px : oX sx ∧ gL X 3 ∧ sT X 57 ∧ (∃ n, n < 7 ∧ X 0 11 = nI n) ∧ (∀ i, i < (X 0 11).toNatClampNeg → ∃ v, v < 2147483648 ∧ X 56 i = nI v) :=
    ⟨ox, hR.lo.1, hR.st, ⟨n, by omega, x11⟩, fun i hi => by obtain ⟨v, v1, v2, -⟩ := hse i (by omega); exact ⟨v, by omega, v2⟩⟩
  have pn : oM sn ∧ gM N ∧ (∃ n, n ≤ 6 ∧ N 0 14 = nI n) := ⟨om, hR.gm, n, hn, y14⟩
  have lw := hR.lw hn y14 hse hst
  have c01 : ∀ k q, (fun k q => shB X 3 (nI q) (X 56 k).toNatClampNeg) k q ≤ 1 := fun k q => by
    have := shF_01 (fun t => X (3 + 3) (t * 4 + (hlF (nI q) t).toNatClampNeg)) (X 3 0).toNatClampNeg (X 56 k).toNatClampNeg
    show shB X 3 (nI q) (X 56 k).toNatClampNeg ≤ 1
    unfold shB
    omega
  have eW : csM X 57 3 56 n = cdI 57 3 56 (2 * (X 3 1).toNatClampNeg) n (csF (tsF X 57 3 (nX X) (X 3 1).toNatClampNeg) 57 (4 ^ nX X) 4096) := rfl
  have cd := cd_in (X := X) (c := fun k q => shB X 3 (nI q) (X 56 k).toNatClampNeg) (st := st) (m := 2 * (X 3 1).toNatClampNeg) (N0 := n) n6.1 (fun s hs => (hst s hs).1) (fun _ _ => rfl) n (M := csF (tsF X 57 3 (nX X) (X 3 1).toNatClampNeg) 57 (4 ^ nX X) 4096) (Nat.le_refl _)
    (by rw [csF_out (by decide), tsF_out (by decide)]) (by rw [csF_out (by decide), tsF_out (by decide)]) (by rw [csF_out (by decide), tsF_out (by decide)])
    (fun s hs => ⟨by have := (hst s hs).1; omega, by rw [csF_out (by decide)]; exact (hst s hs).2.2⟩)
    (fun q hq => by
      rw [csF_in _ hq, Nat.sub_self]
      unfold cB BW
      by_cases w : q < 4 ^ nX X
      · rw [if_pos w, if_pos ⟨w, by decide⟩]
      · rw [if_neg w, if_neg (fun y => w y.1)])
  rw [← eW] at cd
  have hf : smX (csM X 57 3 56 n) 57 = nI (psF (lwM N 22) (4 ^ nX X)) := by
    unfold smX
    rw [show (57 + 2 : Nat) = 59 from rfl, Sm_smF 4096 cd]
    rw [psF_Sm (f := BW (fun k q => shB X 3 (nI q) (X 56 k).toNatClampNeg) st (2 * (X 3 1).toNatClampNeg) n 0) (4 ^ nX X) (fun i hi => by
      have b := Nat.lt_of_le_of_lt (BW_to (st := st) (m := 2 * (X 3 1).toNatClampNeg) c01 n 0 i) (tw6 (by omega) hn)
      rw [lw i hi]
      exact nI_ltI (by omega) b)]
    have s := Sm_0 (f := cB (fun k q => shB X 3 (nI q) (X 56 k).toNatClampNeg) st (2 * (X 3 1).toNatClampNeg) (4 ^ nX X) n 0) (A := 4 ^ nX X) (4096 - 4 ^ nX X) (fun i hi => if_neg (fun y => by omega))
    rw [show 4 ^ nX X + (4096 - 4 ^ nX X) = 4096 by omega] at s
    rw [s]
    refine congrArg nI (Sm_cg _ (fun q hq => ?_))
    unfold cB
    by_cases w : 0 < BW (fun k q => shB X 3 (nI q) (X 56 k).toNatClampNeg) st (2 * (X 3 1).toNatClampNeg) n 0 q
    · rw [if_pos ⟨hq, w⟩, if_pos w]
    · rw [if_neg (fun y => w y.2), if_neg w]
  refine ⟨nI (psF (lwM N 22) (4 ^ nX X)), csM X 57 3 56 n, lwM N, fun Q hQ => ?_, fun Q hQ => ?_, ?_⟩
  · rw [eS115]
    refine ⟨rfl, px, ?_⟩
    rw [c11, hf]
    exact hQ
  · rw [eS199]
    refine ⟨rfl, pn, ?_⟩
    rw [n6.2.2.2]
    exact hQ
  · obtain ⟨z1, z2, z3⟩ := hR.lO
    refine hR.ap ⟨fun b h0 h1 h2 h3 => ?_, ?_⟩ z1 z2 z3
    · rw [eW, cdI_O h1 h2, csF_out h2, tsF_out h3]
    · refine sT_of (M := tsF X 57 3 (nX X) (X 3 1).toNatClampNeg) (sT_ts hR.st n6.1 _) ?_
      rw [eW, cdI_O (by decide) (by decide), csF_out (by decide)]
