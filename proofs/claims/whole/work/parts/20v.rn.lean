/-! the turns as a group; what is reached -/
theorem adK_m {n x y : Nat} : adK (n + 1) x y % 4 = (x + y) % 4 ∧ adK (n + 1) x y / 4 = adK n (x / 4) (y / 4) := by
  have := adK_up (n := n) (u := x % 4) (v := y % 4) (x := x / 4) (y := y / 4) (by omega) (by omega)
  rw [show x % 4 + 4 * (x / 4) = x by omega, show y % 4 + 4 * (y / 4) = y by omega] at this
  rw [this]
  omega
theorem adK_z (x y : Nat) : adK 0 x y = 0 := by
  unfold adK mk_4
  rw [Nat.and_zero, Nat.and_zero, Nat.and_zero]
  rfl
theorem eq_md {a b : Nat} (h : a % 4 = b % 4) (h2 : a / 4 = b / 4) : a = b := by omega
theorem adK_as : ∀ n x y z, adK n (adK n x y) z = adK n x (adK n y z)
  | 0, x, y, z => by rw [adK_z, adK_z]
  | n + 1, x, y, z => by
    have a1 := (adK_m (n := n) (x := x) (y := y)).1
    have a2 := (adK_m (n := n) (x := y) (y := z)).1
    refine eq_md ?_ ?_
    · rw [adK_m.1, adK_m.1]; omega
    · rw [adK_m.2, adK_m.2, adK_m.2, adK_m.2, adK_as n]
theorem adK_cm : ∀ n x y, adK n x y = adK n y x
  | 0, x, y => by rw [adK_z, adK_z]
  | n + 1, x, y => by
    refine eq_md ?_ ?_
    · rw [adK_m.1, adK_m.1]; omega
    · rw [adK_m.2, adK_m.2, adK_cm n]
theorem adK_4 : ∀ n {y} g, y < 4 ^ n → adK n (adK n (adK n (adK n y g) g) g) g = y
  | 0, y, g, h => by
    rw [adK_z]
    have : (4 : Nat) ^ 0 = 1 := rfl
    omega
  | n + 1, y, g, h => by
    rw [Nat.pow_succ] at h
    have a1 := (adK_m (n := n) (x := y) (y := g)).1
    have a2 := (adK_m (n := n) (x := adK (n + 1) y g) (y := g)).1
    have a3 := (adK_m (n := n) (x := adK (n + 1) (adK (n + 1) y g) g) (y := g)).1
    refine eq_md ?_ ?_
    · rw [adK_m.1]; omega
    · rw [adK_m.2, adK_m.2, adK_m.2, adK_m.2, adK_4 n (g / 4) (by omega)]
theorem adK_0r : ∀ n {y}, y < 4 ^ n → adK n y 0 = y
  | 0, y, h => by
    rw [adK_z]
    have : (4 : Nat) ^ 0 = 1 := rfl
    omega
  | n + 1, y, h => by
    rw [Nat.pow_succ] at h
    refine eq_md ?_ ?_
    · rw [adK_m.1]; omega
    · rw [adK_m.2, show 0 / 4 = 0 from rfl, adK_0r n (by omega)]
theorem adN_as (x y z : Nat) : adN (adN x y) z = adN x (adN y z) := adK_as 6 x y z
theorem adN_cm (x y : Nat) : adN x y = adN y x := adK_cm 6 x y
theorem adN_4 {y : Nat} (g : Nat) (h : y < 4096) : adN (adN (adN (adN y g) g) g) g = y := adK_4 6 g h
theorem adN_0r {y : Nat} (h : y < 4096) : adN y 0 = y := adK_0r 6 h
theorem adN_0l {y : Nat} (h : y < 4096) : adN 0 y = y := by rw [adN_cm]; exact adN_0r h
theorem adN_sw (x y z : Nat) : adN (adN x y) z = adN (adN x z) y := by rw [adN_as, adN_cm y z, ← adN_as]
/-- reached from T by the turns of G -/
def Rch (G : Nat → Prop) (T x : Nat) : Prop := ∀ P : Nat → Prop, P T → (∀ y g, P y → G g → P (adN y g)) → P x
theorem Rch.z {G : Nat → Prop} {T : Nat} : Rch G T T := fun _ h _ => h
theorem Rch.s {G : Nat → Prop} {T x g : Nat} (h : Rch G T x) (hg : G g) : Rch G T (adN x g) := fun P h1 h2 => h2 x g (h P h1 h2) hg
theorem Rch.mo {G H : Nat → Prop} {T x : Nat} (h : Rch G T x) (hg : ∀ g, G g → H g) : Rch H T x := h (Rch H T) Rch.z (fun _ _ a b => a.s (hg _ b))
theorem Rch.lt {G : Nat → Prop} {T x : Nat} (hT : T < 4096) (h : Rch G T x) : x < 4096 := h (fun x => x < 4096) hT (fun _ _ _ _ => adN_lt _ _)
/-- m times g -/
def mg (g : Nat) : Nat → Nat
  | 0 => 0
  | m + 1 => adN (mg g m) g
theorem mg_4 (g : Nat) : mg g 4 = 0 := adN_4 (y := 0) g (by decide)
/-- the sums of reached tops and less than i times g -/
def Uu (P : Nat → Prop) (g i y : Nat) : Prop := ∃ m z, m < i ∧ P z ∧ y = adN z (mg g m)
/-- closed at i: the whole that is reached with g -/
theorem Uu_cl {G : Nat → Prop} {T g i : Nat} (hT : T < 4096) (hi : 0 < i) (hc : ∀ z, Rch G T z → Uu (Rch G T) g i (adN z (mg g i))) (y : Nat) : Uu (Rch G T) g i y ↔ Rch (fun h => G h ∨ h = g) T y := by
  constructor
  · rintro ⟨m, z, hm, hz, rfl⟩
    have a : Rch (fun h => G h ∨ h = g) T z := hz.mo (fun _ => Or.inl)
    clear hm
    induction m with
    | zero => show Rch _ T (adN z 0); rw [adN_0r (hz.lt hT)]; exact a
    | succ m ih =>
      show Rch _ T (adN z (adN (mg g m) g))
      rw [← adN_as]
      exact ih.s (Or.inr rfl)
  · intro h
    refine h (Uu (Rch G T) g i) ⟨0, T, hi, Rch.z, (adN_0r hT).symm⟩ ?_
    rintro y h' ⟨m, z, hm, hz, rfl⟩ (a | rfl)
    · exact ⟨m, adN z h', hm, hz.s a, adN_sw _ _ _⟩
    · rw [adN_as]
      show Uu (Rch G T) h' i (adN z (mg h' (m + 1)))
      by_cases c : m + 1 < i
      · exact ⟨m + 1, z, c, hz, rfl⟩
      · obtain rfl : m + 1 = i := by omega
        exact hc z hz
/-- T + i g is there: so is all with i g -/
theorem Uu_in {G : Nat → Prop} {T g i : Nat} (h : Uu (Rch G T) g i (adN T (mg g i))) (z : Nat) (hz : Rch G T z) : Uu (Rch G T) g i (adN z (mg g i)) := by
  refine hz (fun z => Uu (Rch G T) g i (adN z (mg g i))) h ?_
  rintro y h' ⟨m, w, hm, hw, e⟩ hG
  refine ⟨m, adN w h', hm, hw.s hG, ?_⟩
  rw [adN_sw y, e, adN_sw]
theorem Uu_4 {G : Nat → Prop} {T g : Nat} (hT : T < 4096) (z : Nat) (hz : Rch G T z) : Uu (Rch G T) g 4 (adN z (mg g 4)) := ⟨0, z, by decide, hz, by rw [mg_4]; rfl⟩
/-- how many numbers below n are not 0 -/
def cN (f : Nat → Int32) : Nat → Nat
  | 0 => 0
  | n + 1 => cN f n + (if f n = nI 0 then 0 else 1)
theorem cN_le (f : Nat → Int32) : ∀ n, cN f n ≤ n
  | 0 => Nat.le_refl _
  | n + 1 => by
    have := cN_le f n
    unfold cN
    split <;> omega
theorem cN_lt {f : Nat → Int32} {x : Nat} (h : f x = nI 0) : ∀ n, x < n → cN f n < n
  | 0, hx => absurd hx (by omega)
  | n + 1, hx => by
    have := cN_le f n
    unfold cN
    by_cases c : x = n
    · subst c; rw [if_pos h]; omega
    · have := cN_lt h n (by omega)
      split <;> omega
theorem cN_eq {f g : Nat → Int32} : ∀ n, (∀ i, i < n → (f i = nI 0 ↔ g i = nI 0)) → cN f n = cN g n
  | 0, _ => rfl
  | n + 1, h => by
    have ih := cN_eq n (fun i hi => h i (by omega))
    have a := h n (by omega)
    unfold cN
    rw [ih]
    by_cases c : f n = nI 0
    · rw [if_pos c, if_pos (a.mp c)]
    · rw [if_neg c, if_neg (fun y => c (a.mpr y))]
theorem cN_up {f g : Nat → Int32} {x : Nat} (hx : f x = nI 0) (hx2 : ¬ g x = nI 0) (ho : ∀ i, ¬ i = x → g i = f i) : ∀ n, cN g n = cN f n + (if x < n then 1 else 0)
  | 0 => rfl
  | n + 1 => by
    have ih := cN_up hx hx2 ho n
    unfold cN
    rw [ih]
    by_cases c : n = x
    · subst c
      rw [if_neg (Nat.lt_irrefl _), if_neg hx2, if_pos hx, if_pos (by omega)]
    · rw [ho n c]
      by_cases d : x < n
      · rw [if_pos d, if_pos (show x < n + 1 by omega)]; omega
      · rw [if_neg d, if_neg (show ¬ x < n + 1 by omega)]; omega
theorem cN_0 {f : Nat → Int32} {A : Nat} : ∀ n, (∀ i, A ≤ i → i < A + n → f i = nI 0) → cN f (A + n) = cN f A
  | 0, _ => rfl
  | n + 1, h => by
    show cN f (A + n) + (if f (A + n) = nI 0 then 0 else 1) = cN f A
    rw [cN_0 n (fun i a b => h i a (by omega)), if_pos (h (A + n) (by omega) (by omega))]
    omega
/-- the class's list and marks tell P -/
def LQl (M : mv_Mem) (P : Nat → Prop) (c : Nat) : Prop := M 57 3 = nI c ∧ c = cN (M 59) 4096 ∧ (∀ i, i < c → ∃ x, x < 4096 ∧ M 58 i = nI x ∧ P x) ∧ (∀ x, x < 4096 → (P x ↔ ¬ M 59 x = nI 0)) ∧ ∀ x, x < 4096 → P x → ∃ i, i < c ∧ M 58 i = nI x
theorem LQl.le {M : mv_Mem} {P : Nat → Prop} {c : Nat} (h : LQl M P c) : c ≤ 4096 := by rw [h.2.1]; exact cN_le _ _
theorem LQl.co {M : mv_Mem} {P Q : Nat → Prop} {c : Nat} (h : LQl M P c) (e : ∀ x, x < 4096 → (P x ↔ Q x)) : LQl M Q c := by
  obtain ⟨a1, a2, a3, a4, a5⟩ := h
  refine ⟨a1, a2, fun i hi => ?_, fun x hx => (e x hx).symm.trans (a4 x hx), fun x hx q => a5 x hx ((e x hx).mpr q)⟩
  obtain ⟨x, b1, b2, b3⟩ := a3 i hi
  exact ⟨x, b1, b2, (e x b1).mp b3⟩
theorem LQl.en {M : mv_Mem} {P : Nat → Prop} {c x : Nat} {v : Int32} (h : LQl M P c) (hx : x < 4096) (hv : ¬ v = nI 0) : ∃ c', c ≤ c' ∧ LQl (enM M 57 x v) (fun y => P y ∨ y = x) c' ∧ ∀ i, i < c → enM M 57 x v 58 i = M 58 i := by
  have hc := h.le
  obtain ⟨a1, a2, a3, a4, a5⟩ := id h
  by_cases m : M 59 x = nI 0
  · have hl := cN_lt m 4096 hx
    have e : enM M 57 x v = mv_up (mv_up (mv_up M 59 x v) 58 c (nI x)) 57 3 (nI (c + 1)) := by
      unfold enM
      rw [show (57 + 2 : Nat) = 59 from rfl, show (57 + 1 : Nat) = 58 from rfl, if_pos m, a1, q_cl (by omega), if_neg (by omega)]
    rw [e]
    have e59 : (mv_up (mv_up (mv_up M 59 x v) 58 c (nI x)) 57 3 (nI (c + 1))) 59 = (mv_up M 59 x v) 59 := by rw [q_upO (by decide), q_upO (by decide)]
    have e58 : (mv_up (mv_up (mv_up M 59 x v) 58 c (nI x)) 57 3 (nI (c + 1))) 58 = (mv_up (mv_up M 59 x v) 58 c (nI x)) 58 := by rw [q_upO (by decide)]
    refine ⟨c + 1, by omega, ⟨q_upS, ?_, fun i hi => ?_, fun y hy => ?_, fun y hy q => ?_⟩, fun i hi => ?_⟩
    · rw [e59, cN_up (f := M 59) (x := x) m (by rw [q_upS]; exact hv) (fun i hi => q_upN (fun y => hi y.2)), if_pos hx, ← a2]
    · rw [e58]
      by_cases z : i = c
      · subst z
        exact ⟨x, hx, q_upS, Or.inr rfl⟩
      · obtain ⟨y, b1, b2, b3⟩ := a3 i (by omega)
        exact ⟨y, b1, by rw [q_upN (fun y => z y.2), q_upO (by decide)]; exact b2, Or.inl b3⟩
    · rw [e59]
      by_cases z : y = x
      · subst z
        rw [q_upS]
        exact ⟨fun _ => hv, fun _ => Or.inr rfl⟩
      · rw [q_upN (fun w => z w.2), ← a4 y hy]
        exact ⟨fun q => q.resolve_right z, Or.inl⟩
    · rw [e58]
      by_cases z : y = x
      · subst z
        exact ⟨c, by omega, q_upS⟩
      · obtain ⟨i, b1, b2⟩ := a5 y hy (q.resolve_right z)
        exact ⟨i, by omega, by rw [q_upN (by omega), q_upO (by decide)]; exact b2⟩
    · rw [e58, q_upN (by omega), q_upO (by decide)]
  · have e : enM M 57 x v = M := if_neg m
    rw [e]
    refine ⟨c, Nat.le_refl _, h.co (fun y hy => ⟨Or.inl, ?_⟩), fun _ _ => rfl⟩
    rintro (q | rfl)
    · exact q
    · exact (a4 y hx).mpr m
theorem m1n0 : ¬ Int32.ofInt (-1) = nI 0 := by decide
theorem LQl.sdi {k l0 : Nat} {f : Nat → Nat} : ∀ n j {M : mv_Mem} {P : Nat → Prop} {c : Nat}, j + n = l0 → LQl M P c → l0 ≤ c → (∀ i, i < l0 → f i < 4096 ∧ M 58 i = nI (f i)) →
    ∃ c', c ≤ c' ∧ LQl (sdI 57 k n j M) (fun y => P y ∨ ∃ i, j ≤ i ∧ i < l0 ∧ y = adN (f i) k) c' ∧ (∀ i, i < l0 → sdI 57 k n j M 58 i = M 58 i)
  | 0, j, M, P, c, e, h, _, _ => ⟨c, Nat.le_refl _, h.co (fun y _ => ⟨Or.inl, fun q => q.elim id (fun ⟨i, a, b, _⟩ => absurd a (by omega))⟩), fun _ _ => rfl⟩
  | n + 1, j, M, P, c, e, h, hl, hf => by
    obtain ⟨f1, f2⟩ := hf j (by omega)
    obtain ⟨c1, b1, b2, b3⟩ := h.en (v := Int32.ofInt (-1)) (adN_lt (f j) k) m1n0
    obtain ⟨c2, d1, d2, d3⟩ := LQl.sdi (k := k) (l0 := l0) (f := f) n (j + 1) (by omega) b2 (by omega) (fun i hi => ⟨(hf i hi).1, (b3 i (by omega)).trans (hf i hi).2⟩)
    have ee : sdI 57 k (n + 1) j M = sdI 57 k n (j + 1) (enM M 57 (adN (f j) k) (Int32.ofInt (-1))) := by
      show sdI 57 k n (j + 1) (enM M 57 (adN (M (57 + 1) j).toNatClampNeg k) (Int32.ofInt (-1))) = _
      rw [show M (57 + 1) j = nI (f j) from f2, q_cl (by omega)]
    rw [ee]
    refine ⟨c2, by omega, d2.co (fun y _ => ?_), fun i hi => (d3 i hi).trans (b3 i (by omega))⟩
    constructor
    · rintro ((q | rfl) | ⟨i, q1, q2, q3⟩)
      · exact Or.inl q
      · exact Or.inr ⟨j, Nat.le_refl _, by omega, rfl⟩
      · exact Or.inr ⟨i, by omega, q2, q3⟩
    · rintro (q | ⟨i, q1, q2, q3⟩)
      · exact Or.inl (Or.inl q)
      · by_cases z : i = j
        · subst z; exact Or.inl (Or.inr q3)
        · exact Or.inr ⟨i, by omega, q2, q3⟩
theorem sdO_in {G : Nat → Prop} {T g l0 : Nat} {f : Nat → Nat} (hT : T < 4096) (hf : ∀ z, Rch G T z ↔ ∃ i, i < l0 ∧ z = f i) : ∀ n i {M : mv_Mem} {c : Nat}, i + n = 4 → 0 < i → LQl M (Uu (Rch G T) g i) c → l0 ≤ c → (∀ i, i < l0 → f i < 4096 ∧ M 58 i = nI (f i)) → ∃ c', LQl (sdO 57 T g l0 n (mg g i) M) (Rch (fun h => G h ∨ h = g) T) c'
  | 0, i, M, c, e, hi, h, _, _ => by
    obtain rfl : i = 4 := by omega
    exact ⟨c, h.co (fun y _ => Uu_cl hT hi (Uu_4 hT) y)⟩
  | n + 1, i, M, c, e, hi, h, hl, hM => by
    unfold sdO
    rw [show (57 + 2 : Nat) = 59 from rfl]
    by_cases m : M 59 (adN T (mg g i)) = nI 0
    · rw [if_pos m]
      obtain ⟨c1, b1, b2, b3⟩ := LQl.sdi (k := mg g i) l0 0 (by omega) h hl hM
      refine sdO_in hT hf n (i + 1) (by omega) (by omega) (b2.co (fun y _ => ?_)) (by omega) (fun j hj => ⟨(hM j hj).1, (b3 j hj).trans (hM j hj).2⟩)
      constructor
      · rintro (⟨m, z, q1, q2, q3⟩ | ⟨j, -, q1, q2⟩)
        · exact ⟨m, z, by omega, q2, q3⟩
        · exact ⟨i, f j, by omega, (hf (f j)).mpr ⟨j, q1, rfl⟩, q2⟩
      · rintro ⟨m, z, q1, q2, q3⟩
        by_cases w : m < i
        · exact Or.inl ⟨m, z, w, q2, q3⟩
        · obtain rfl : m = i := by omega
          obtain ⟨j, q4, rfl⟩ := (hf z).mp q2
          exact Or.inr ⟨j, by omega, q4, q3⟩
    · rw [if_neg m]
      exact ⟨c, h.co (fun y _ => Uu_cl hT hi (Uu_in ((h.2.2.2.1 _ (adN_lt _ _)).mpr m)) y)⟩
theorem LQl.sp {M : mv_Mem} {G : Nat → Prop} {T g c : Nat} (hT : T < 4096) (hg : g < 4096) (h : LQl M (Rch G T) c) : ∃ c', LQl (spM M 57 T g) (Rch (fun h => G h ∨ h = g) T) c' := by
  have hc := h.le
  obtain ⟨a1, a2, a3, a4, a5⟩ := id h
  unfold spM
  rw [a1, q_cl (by omega)]
  have e1 : g = mg g 1 := (adN_0l hg).symm
  have hM : ∀ i, i < c → (M 58 i).toNatClampNeg < 4096 ∧ M 58 i = nI (M 58 i).toNatClampNeg := by
    intro i hi
    obtain ⟨x, b1, b2, -⟩ := a3 i hi
    rw [b2, q_cl (by omega)]
    exact ⟨b1, rfl⟩
  have r := sdO_in (G := G) (g := g) (l0 := c) (f := fun i => (M 58 i).toNatClampNeg) (M := M) (c := c) hT (fun z => ?_) 3 1 rfl (by decide) (h.co (fun y hy => ?_)) (Nat.le_refl _) hM
  · rw [← e1] at r
    exact r
  · constructor
    · intro hz
      obtain ⟨i, b1, b2⟩ := a5 z (hz.lt hT) hz
      exact ⟨i, b1, by show z = (M 58 i).toNatClampNeg; rw [b2, q_cl (by have := hz.lt hT; omega)]⟩
    · rintro ⟨i, b1, rfl⟩
      obtain ⟨x, d1, d2, d3⟩ := a3 i b1
      show Rch G T (M 58 i).toNatClampNeg
      rw [d2, q_cl (by omega)]
      exact d3
  · constructor
    · intro hz
      exact ⟨0, y, by decide, hz, (adN_0r hy).symm⟩
    · rintro ⟨m, z, b1, b2, b3⟩
      obtain rfl : m = 0 := by omega
      rw [b3, show mg g 0 = 0 from rfl, adN_0r (b2.lt hT)]
      exact b2
theorem sdI_O {k b : Nat} (h0 : ¬ b = 57) (h1 : ¬ b = 58) (h2 : ¬ b = 59) : ∀ n j (M : mv_Mem), sdI 57 k n j M b = M b
  | 0, _, _ => rfl
  | n + 1, j, M => by
    unfold sdI
    rw [sdI_O h0 h1 h2 n, enM_out h0 h1 h2]
theorem sdO_O {x g l0 b : Nat} (h0 : ¬ b = 57) (h1 : ¬ b = 58) (h2 : ¬ b = 59) : ∀ n k (M : mv_Mem), sdO 57 x g l0 n k M b = M b
  | 0, _, _ => rfl
  | n + 1, k, M => by
    unfold sdO
    split
    · rw [sdO_O h0 h1 h2 n, sdI_O h0 h1 h2]
    · rfl
theorem rcL_O {x b : Nat} {y : Int32} (h0 : ¬ b = 57) (h1 : ¬ b = 58) (h2 : ¬ b = 59) : ∀ n s (M : mv_Mem), rcL 57 x y n s M b = M b
  | 0, _, _ => rfl
  | n + 1, s, M => by
    unfold rcL
    rw [rcL_O h0 h1 h2 n]
    split
    · exact sdO_O h0 h1 h2 _ _ _
    · rfl
/-- the turns that the set y of packs gives, of the first s -/
def Gy (st : Nat → Nat) (y : Int32) (s g : Nat) : Prop := ∃ i, i < s ∧ y >>> (nI (i / 2) &&& 31) &&& nI 1 = nI 1 ∧ g = st i
theorem LQl.rc {T : Nat} {st : Nat → Nat} {y : Int32} (hT : T < 4096) : ∀ n s {M : mv_Mem} {c : Nat}, LQl M (Rch (Gy st y s) T) c → (∀ i, i < s + n → st i < 4096 ∧ M 60 i = nI (st i)) → ∃ c', LQl (rcL 57 T y n s M) (Rch (Gy st y (s + n)) T) c'
  | 0, s, M, c, h, _ => ⟨c, h⟩
  | n + 1, s, M, c, h, h60 => by
    obtain ⟨q1, q2⟩ := h60 s (by omega)
    unfold rcL
    rw [show s + (n + 1) = s + 1 + n by omega, show M (57 + 3) s = nI (st s) from q2, q_cl (by omega), adN_0l q1]
    by_cases b : y >>> (nI (s / 2) &&& 31) &&& nI 1 = nI 1
    · rw [if_pos b]
      obtain ⟨c1, h1⟩ := h.sp hT q1
      refine LQl.rc hT n (s + 1) (c := c1) (h1.co (fun x _ => ?_)) (fun i hi => ?_)
      · constructor
        · intro z
          refine z.mo ?_
          rintro g (⟨i, i1, i2, i3⟩ | rfl)
          · exact ⟨i, by omega, i2, i3⟩
          · exact ⟨s, by omega, b, rfl⟩
        · intro z
          refine z.mo ?_
          rintro g ⟨i, i1, i2, i3⟩
          by_cases w : i = s
          · subst w; exact Or.inr i3
          · exact Or.inl ⟨i, by omega, i2, i3⟩
      · rw [show spM M 57 T (st s) 60 = M 60 from sdO_O (by decide) (by decide) (by decide) _ _ _]
        exact h60 i (by omega)
    · rw [if_neg b]
      refine LQl.rc hT n (s + 1) (c := c) (h.co (fun x _ => ?_)) (fun i hi => h60 i (by omega))
      constructor
      · intro z
        refine z.mo ?_
        rintro g ⟨i, i1, i2, i3⟩
        exact ⟨i, by omega, i2, i3⟩
      · intro z
        refine z.mo ?_
        rintro g ⟨i, i1, i2, i3⟩
        by_cases w : i = s
        · subst w; exact absurd i2 b
        · exact ⟨i, by omega, i2, i3⟩
theorem fi_z {M : mv_Mem} {a x : Nat} {v : Int32} : ∀ n, x < n → fiM M a v n a x = v
  | 0, h => absurd h (by omega)
  | n + 1, h => by
    unfold fiM
    by_cases z : x = n
    · subst z; exact q_upS
    · rw [q_upN (fun w => z w.2)]; exact fi_z n (by omega)
theorem cN_all0 {f : Nat → Int32} : ∀ n, (∀ i, i < n → f i = nI 0) → cN f n = 0
  | 0, _ => rfl
  | n + 1, h => by
    unfold cN
    rw [cN_all0 n (fun i hi => h i (by omega)), if_pos (h n (by omega))]
/-- begun with T -/
theorem LQl.sl {M : mv_Mem} {T : Nat} (hT : T < 4096) : ∃ c, LQl (slM M 57 T (Int32.ofInt (-1))) (fun x => x = T) c := by
  have h0 : LQl (mv_up (fiM M 59 (nI 0) 4096) 57 3 (nI 0)) (fun _ => False) 0 := by
    refine ⟨q_upS, ?_, fun i hi => absurd hi (by omega), fun x hx => ?_, fun _ _ h => h.elim⟩
    · rw [q_upO (by decide), cN_all0 _ (fun i hi => fi_z _ hi)]
    · rw [q_upO (by decide), fi_z _ hx]
      exact ⟨fun h => h.elim, fun h => h rfl⟩
  obtain ⟨c, -, h1, -⟩ := h0.en hT m1n0
  exact ⟨c, h1.co (fun x _ => ⟨fun h => h.resolve_left id, Or.inr⟩)⟩
theorem LQl.rcm {M : mv_Mem} {T : Nat} {st : Nat → Nat} {y : Int32} (hT : T < 4096) (h60 : ∀ i, i < 2 * (M 3 1).toNatClampNeg → st i < 4096 ∧ tsF M 57 3 (M 3 0).toNatClampNeg (M 3 1).toNatClampNeg 60 i = nI (st i)) : ∃ c, LQl (rcM M 57 3 T y) (Rch (Gy st y (2 * (M 3 1).toNatClampNeg)) T) c := by
  obtain ⟨c, h⟩ := LQl.sl (M := tsF M 57 3 (M 3 0).toNatClampNeg (M 3 1).toNatClampNeg) hT
  have r := LQl.rc (y := y) (st := st) hT (2 * (M 3 1).toNatClampNeg) 0 (h.co (Q := Rch (Gy st y 0) T) (fun x _ => ?_)) (fun i hi => ?_)
  · rw [Nat.zero_add] at r
    exact r
  · constructor
    · rintro rfl; exact Rch.z
    · intro z
      exact z (fun x => x = T) rfl (fun _ _ _ ⟨i, hi, _⟩ => absurd hi (by omega))
  · unfold slM
    rw [enM_out (by decide) (by decide) (by decide), q_upO (by decide), fiM_out (by decide)]
    exact h60 i (by omega)
