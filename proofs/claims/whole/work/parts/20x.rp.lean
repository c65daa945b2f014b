/-! needs -/
theorem stF_cg {M X : mv_Mem} {a p w : Nat} (h1 : M (a + 1) = X (a + 1)) (h5 : M (a + 5) = X (a + 5)) : ∀ n, stF M a p w n = stF X a p w n
  | 0 => rfl
  | n + 1 => by
    unfold stF
    rw [h1, h5, stF_cg h1 h5 n]
theorem ts_cg {M X : mv_Mem} {nT : Nat} (h1 : M 4 = X 4) (h5 : M 8 = X 8) : ∀ m i, i < 2 * m → tsF M 57 3 nT m 60 i = tsF X 57 3 nT m 60 i
  | 0, i, h => absurd h (by omega)
  | m + 1, i, h => by
    have st : ∀ w, stF M 3 m w nT = stF X 3 m w nT := fun w => stF_cg (a := 3) h1 h5 nT
    unfold tsF
    rw [show (57 + 3 : Nat) = 60 from rfl, st, st]
    by_cases c : i = 2 * m + 1
    · subst c; rw [q_upS, q_upS]
    · have n1 : ¬ ((60 : Nat) = 60 ∧ i = 2 * m + 1) := fun y => c y.2
      rw [q_upN n1, q_upN n1]
      by_cases d : i = 2 * m
      · subst d; rw [q_upS, q_upS]
      · have n2 : ¬ ((60 : Nat) = 60 ∧ i = 2 * m) := fun y => d y.2
        rw [q_upN n2, q_upN n2]
        exact ts_cg h1 h5 m i (by omega)
def oOK (X M : mv_Mem) : Prop := (∀ b, ¬ b = 57 → ¬ b = 58 → ¬ b = 59 → ¬ b = 60 → M b = X b) ∧ sT M 57
theorem rcM_O {M : mv_Mem} {x b : Nat} {y : Int32} (h0 : ¬ b = 57) (h1 : ¬ b = 58) (h2 : ¬ b = 59) (h3 : ¬ b = 60) : rcM M 57 3 x y b = M b := by
  unfold rcM slM
  rw [rcL_O h0 h1 h2, enM_out h0 h1 h2, q_upO h0, fiM_out h2, tsF_out h3]
theorem rcM_60 {M : mv_Mem} {x : Nat} {y : Int32} : rcM M 57 3 x y 60 = tsF M 57 3 (M 3 0).toNatClampNeg (M 3 1).toNatClampNeg 60 := by
  unfold rcM slM
  rw [rcL_O (by decide) (by decide) (by decide), enM_out (by decide) (by decide) (by decide), q_upO (by decide), fiM_out (by decide)]
theorem oOK.rc {X M : mv_Mem} {x : Nat} {y : Int32} (h : oOK X M) (h6 : (X 3 0).toNatClampNeg ≤ 6) : oOK X (rcM M 57 3 x y) := by
  refine ⟨fun b h0 h1 h2 h3 => (rcM_O h0 h1 h2 h3).trans (h.1 b h0 h1 h2 h3), ?_⟩
  refine sT_of (M := tsF M 57 3 (M 3 0).toNatClampNeg (M 3 1).toNatClampNeg) (sT_ts h.2 ?_ _) rcM_60
  rw [h.1 3 (by decide) (by decide) (by decide) (by decide)]
  exact h6
/-- the least of the fewest -/
def LX (B : Nat → Prop) (m r : Nat) : Prop := r < m ∧ B r ∧ ∀ i, i < m → B i → btN r < btN i ∨ (btN r = btN i ∧ r ≤ i)
theorem LX.eq {B : Nat → Prop} {m r q : Nat} (h : LX B m r) (h2 : LX B m q) : r = q := by
  have a := h.2.2 q h2.1 h2.2.1
  have b := h2.2.2 r h.1 h.2.1
  omega
theorem ndI_s {OK : mv_Mem → Prop} {B : Nat → Prop} {x v s : Nat} (hB : ∀ M j, OK M → (rhB M x j v = 1 ↔ B j)) (hO : ∀ M y, OK M → OK (rcM M 57 3 x y)) :
    ∀ n j M, OK M → OK (ndI x v s n j M).2.2 ∧ (((ndI x v s n j M).1 = 1 ∧ ∃ r, (ndI x v s n j M).2.1 = r ∧ j ≤ r ∧ r < j + n ∧ btN r = s ∧ B r ∧ ∀ i, j ≤ i → i < r → btN i = s → ¬ B i) ∨ ((ndI x v s n j M).1 = 0 ∧ ∀ i, j ≤ i → i < j + n → btN i = s → ¬ B i))
  | 0, j, M, h => ⟨h, Or.inr ⟨rfl, fun i a b => absurd a (by omega)⟩⟩
  | n + 1, j, M, h => by
    have more : ∀ M', OK M' → (btN j = s → ¬ B j) → OK (ndI x v s n (j + 1) M').2.2 ∧ (((ndI x v s n (j + 1) M').1 = 1 ∧ ∃ r, (ndI x v s n (j + 1) M').2.1 = r ∧ j ≤ r ∧ r < j + (n + 1) ∧ btN r = s ∧ B r ∧ ∀ i, j ≤ i → i < r → btN i = s → ¬ B i) ∨ ((ndI x v s n (j + 1) M').1 = 0 ∧ ∀ i, j ≤ i → i < j + (n + 1) → btN i = s → ¬ B i)) := by
      intro M' h' nb
      obtain ⟨k1, k2⟩ := ndI_s hB hO n (j + 1) M' h'
      refine ⟨k1, ?_⟩
      rcases k2 with ⟨a, r, b1, b2, b3, b4, b5, b6⟩ | ⟨a, b⟩
      · refine Or.inl ⟨a, r, b1, by omega, by omega, b4, b5, fun i i1 i2 i3 => ?_⟩
        by_cases w : i = j
        · subst w; exact nb i3
        · exact b6 i (by omega) i2 i3
      · refine Or.inr ⟨a, fun i i1 i2 i3 => ?_⟩
        by_cases w : i = j
        · subst w; exact nb i3
        · exact b i (by omega) (by omega) i3
    unfold ndI
    by_cases c : btN j = s
    · rw [if_pos c]
      by_cases d : rhB M x j v = 1
      · rw [if_pos d]
        exact ⟨hO M _ h, Or.inl ⟨rfl, j, rfl, Nat.le_refl _, by omega, c, (hB M j h).mp d, fun i a b => absurd a (by omega)⟩⟩
      · rw [if_neg d]
        exact more _ (hO M _ h) (fun _ y => d ((hB M j h).mpr y))
    · rw [if_neg c]
      exact more M h (fun y => absurd y c)
theorem ndO_s {OK : mv_Mem → Prop} {B : Nat → Prop} {x v p : Nat} (hB : ∀ M j, OK M → (rhB M x j v = 1 ↔ B j)) (hO : ∀ M y, OK M → OK (rcM M 57 3 x y)) :
    ∀ n s M, OK M → (∀ i, i < 2 ^ p → btN i < s → ¬ B i) → OK (ndO x v p n s M).2 ∧ ((∃ r, (ndO x v p n s M).1 = nI r ∧ LX B (2 ^ p) r) ∨ ((ndO x v p n s M).1 = Int32.ofInt (-4) ∧ ∀ i, i < 2 ^ p → btN i < s + n → ¬ B i))
  | 0, s, M, h, hs => ⟨h, Or.inr ⟨rfl, hs⟩⟩
  | n + 1, s, M, h, hs => by
    obtain ⟨k1, k2⟩ := ndI_s (s := s) hB hO (2 ^ p) 0 M h
    unfold ndO
    rcases k2 with ⟨a, r, b1, b2, b3, b4, b5, b6⟩ | ⟨a, b⟩
    · rw [if_pos a]
      refine ⟨k1, Or.inl ⟨r, by rw [b1], by omega, b5, fun i i1 i2 => ?_⟩⟩
      have w1 : ¬ btN i < s := fun y => hs i i1 y i2
      by_cases w : btN i = s
      · refine Or.inr ⟨by omega, ?_⟩
        by_cases z : i < r
        · exact absurd i2 (b6 i (Nat.zero_le _) z w)
        · omega
      · omega
    · rw [if_neg (by rw [a]; decide)]
      have nx : ∀ i, i < 2 ^ p → btN i < s + 1 → ¬ B i := by
        intro i i1 i2
        by_cases w : btN i = s
        · exact b i (Nat.zero_le _) (by omega) w
        · exact hs i i1 (by omega)
      obtain ⟨m1, m2⟩ := ndO_s hB hO n (s + 1) _ k1 nx
      exact ⟨m1, m2.imp id (fun ⟨q1, q2⟩ => ⟨q1, fun i i1 i2 => q2 i i1 (by omega)⟩)⟩
theorem bt_le : ∀ (p : Fin 7) (i : Fin 64), i.1 < 2 ^ p.1 → btN i.1 ≤ p.1 := by decide +kernel
theorem ndX_s {OK : mv_Mem → Prop} {B : Nat → Prop} {M : mv_Mem} {x v p : Nat} (hp : p ≤ 6) (eP : (M 3 1).toNatClampNeg = p) (hB : ∀ M j, OK M → (rhB M x j v = 1 ↔ B j)) (hO : ∀ M y, OK M → OK (rcM M 57 3 x y)) (hm : ∀ i, i < 2 ^ p → B i → B (2 ^ p - 1)) (h : OK M) :
    OK (ndX M x v).2 ∧ ((∃ r, (ndX M x v).1 = nI r ∧ LX B (2 ^ p) r) ∨ ((ndX M x v).1 = Int32.ofInt (-4) ∧ ∀ i, i < 2 ^ p → ¬ B i)) := by
  have p0 := Nat.two_pow_pos p
  have p64 : 2 ^ p ≤ 64 := (allP ⟨p, by omega⟩).2
  unfold ndX
  rw [eP]
  by_cases c : rhB M x (2 ^ p - 1) v = 1
  · rw [if_pos c]
    obtain ⟨k1, k2⟩ := ndO_s (p := p) hB hO (p + 1) 0 _ (hO M (nI (2 ^ p - 1)) h) (fun i _ i2 => absurd i2 (by omega))
    refine ⟨k1, k2.imp id (fun ⟨q1, q2⟩ => ⟨q1, fun i i1 => q2 i i1 ?_⟩)⟩
    have := bt_le ⟨p, by omega⟩ ⟨i, by omega⟩ i1
    dsimp only at this
    omega
  · rw [if_neg c]
    exact ⟨hO M _ h, Or.inr ⟨rfl, fun i i1 i2 => c ((hB M _ h).mpr (hm i i1 i2))⟩⟩
theorem ndZ_s {OK : mv_Mem → Prop} {B : Nat → Prop} {x : Int32} {p : Nat} (hp : p ≤ 6) (hB : ∀ N j, OK N → ((gtM N x (nI j)).1 = Int32.ofInt (-4) ↔ ¬ B j)) (hO : ∀ N y, OK N → OK (gtM N x y).2) :
    ∀ n s b N, s + n = 2 ^ p → OK N → ((b = Int32.ofInt (-4) ∧ ∀ i, i < s → ¬ B i) ∨ ∃ r, b = nI r ∧ LX B s r) → OK (ndZ x n s b N).2 ∧ (((ndZ x n s b N).1 = Int32.ofInt (-4) ∧ ∀ i, i < 2 ^ p → ¬ B i) ∨ ∃ r, (ndZ x n s b N).1 = nI r ∧ LX B (2 ^ p) r)
  | 0, s, b, N, e, h, hb => by
    obtain rfl : s = 2 ^ p := by omega
    exact ⟨h, hb⟩
  | n + 1, s, b, N, e, h, hb => by
    have p64 : 2 ^ p ≤ 64 := (allP ⟨p, by omega⟩).2
    have t := hB N s h
    unfold ndZ
    rcases hb with ⟨rfl, hb⟩ | ⟨r, rfl, r1, r2, r3⟩
    · rw [if_pos (Or.inl rfl)]
      by_cases c : (gtM N x (nI s)).1 = Int32.ofInt (-4)
      · rw [if_pos c]
        refine ndZ_s hp hB hO n (s + 1) _ _ (by omega) (hO N _ h) (Or.inl ⟨rfl, fun i i1 => ?_⟩)
        by_cases w : i = s
        · subst w; exact t.mp c
        · exact hb i (by omega)
      · rw [if_neg c]
        refine ndZ_s hp hB hO n (s + 1) _ _ (by omega) (hO N _ h) (Or.inr ⟨s, rfl, by omega, Classical.byContradiction (fun y => c (t.mpr y)), fun i i1 i2 => ?_⟩)
        by_cases w : i = s
        · subst w; exact Or.inr ⟨rfl, Nat.le_refl _⟩
        · exact absurd i2 (hb i (by omega))
    · have nr : ¬ nI r = Int32.ofInt (-4) := nI_m4 (by omega)
      rw [q_cl (by omega)]
      by_cases d : btN s < btN r
      · rw [if_pos (Or.inr d)]
        by_cases c : (gtM N x (nI s)).1 = Int32.ofInt (-4)
        · rw [if_pos c]
          refine ndZ_s hp hB hO n (s + 1) _ _ (by omega) (hO N _ h) (Or.inr ⟨r, rfl, by omega, r2, fun i i1 i2 => ?_⟩)
          by_cases w : i = s
          · subst w; exact absurd i2 (t.mp c)
          · exact r3 i (by omega) i2
        · rw [if_neg c]
          refine ndZ_s hp hB hO n (s + 1) _ _ (by omega) (hO N _ h) (Or.inr ⟨s, rfl, by omega, Classical.byContradiction (fun y => c (t.mpr y)), fun i i1 i2 => ?_⟩)
          by_cases w : i = s
          · subst w; exact Or.inr ⟨rfl, Nat.le_refl _⟩
          · have := r3 i (by omega) i2
            omega
      · rw [if_neg (fun y => y.elim nr d)]
        refine ndZ_s hp hB hO n (s + 1) _ _ (by omega) h (Or.inr ⟨r, rfl, by omega, r2, fun i i1 i2 => ?_⟩)
        by_cases w : i = s
        · subst w
          omega
        · exact r3 i (by omega) i2
def nOK (L N : mv_Mem) : Prop := (∀ c, ¬ c = 0 → ¬ c = 19 → ¬ c = 20 → ¬ c = 21 → N c = L c) ∧ ∀ j, ¬ j = 36 → N 0 j = L 0 j
theorem nOK.gt {L N : mv_Mem} {x y : Int32} (h : nOK L N) : nOK L (gtM N x y).2 := ⟨fun c h0 h1 h2 h3 => (gtM_out h0 h1 h2 h3).trans (h.1 c h0 h1 h2 h3), fun j hj => (gtM_0 hj).trans (h.2 j hj)⟩
theorem nOK.gS {L N : mv_Mem} {A nP : Nat} (h : nOK L N) (g : gS L A nP) : gS N A nP := gS_of g (h.2 32 (by decide)) (h.2 7 (by decide)) (h.1 15 (by decide) (by decide) (by decide) (by decide))
theorem nOK.hn {L N : mv_Mem} (h : nOK L N) : hnY N = hnY L := by
  unfold hnY
  rw [h.2 3 (by decide), h.1 1 (by decide) (by decide) (by decide) (by decide)]
section
variable {k : Nat} {X N : mv_Mem}
theorem RR.sg (h : RR k X N) : gS (lhM N) (4 ^ nX X) (X 3 1).toNatClampNeg ∧ ∃ st : Nat → Nat, ∀ i, i < 2 * (X 3 1).toNatClampNeg → st i < 4 ^ nX X ∧ lhM N 15 i = nI (st i) ∧ tsF X 57 3 (nX X) (X 3 1).toNatClampNeg 60 i = nI (st i) := by
  obtain ⟨eE, hP6, e7⟩ := h.ep
  have n6 := h.n6
  have p4 := p4_le n6.1
  have g := gS_lh h.gm
  rw [n6.2.2.2, e7] at g
  refine ⟨g, fun i => (lhM N 15 i).toNatClampNeg, fun i hi => ?_⟩
  obtain ⟨q, hq, e⟩ := g.2.2.2.2 i hi
  have e2 : (lhM N 15 i).toNatClampNeg = q := by rw [e, q_cl (by omega)]
  refine ⟨by show (lhM N 15 i).toNatClampNeg < _; rw [e2]; exact hq, by show lhM N 15 i = nI (lhM N 15 i).toNatClampNeg; rw [e2]; exact e, ?_⟩
  show _ = nI (lhM N 15 i).toNatClampNeg
  rw [e2, ← e]
  exact ts_st h rfl _ (Nat.le_refl _) i hi
theorem RR.hT (h : RR k X N) : hnY (lhM N) = hnY N := by
  unfold hnY
  rw [lhM_0 (by decide), lhM_out (by decide) (by decide) (by decide) (by decide)]
/-- the class: is a row of the colours v among the reached -/
theorem RR.rc (h : RR k X N) {M : mv_Mem} {T : Nat} {st : Nat → Nat} {y : Int32} (hM : oOK X M) (hT : T < 4 ^ nX X) (hst : ∀ i, i < 2 * (X 3 1).toNatClampNeg → st i < 4 ^ nX X ∧ lhM N 15 i = nI (st i) ∧ tsF X 57 3 (nX X) (X 3 1).toNatClampNeg 60 i = nI (st i)) :
    ∃ c, LQl (rcM M 57 3 T y) (Rch (Gy st y (2 * (X 3 1).toNatClampNeg)) T) c := by
  have n6 := h.n6
  have p4 := p4_le n6.1
  have e3 : M 3 = X 3 := hM.1 3 (by decide) (by decide) (by decide) (by decide)
  have r := LQl.rcm (M := M) (T := T) (st := st) (y := y) (by omega)
  rw [e3] at r
  refine r (fun i hi => ?_)
  obtain ⟨s1, s2, s3⟩ := hst i hi
  refine ⟨by omega, ?_⟩
  rw [ts_cg (hM.1 4 (by decide) (by decide) (by decide) (by decide)) (hM.1 8 (by decide) (by decide) (by decide) (by decide)) _ i hi]
  exact s3
theorem RR.rl (h : RR k X N) {T z : Nat} {st : Nat → Nat} {y : Int32} (hT : T < 4 ^ nX X) (hst : ∀ i, i < 2 * (X 3 1).toNatClampNeg → st i < 4 ^ nX X ∧ lhM N 15 i = nI (st i) ∧ tsF X 57 3 (nX X) (X 3 1).toNatClampNeg 60 i = nI (st i)) (hz : Rch (Gy st y (2 * (X 3 1).toNatClampNeg)) T z) : z < 4 ^ nX X :=
  hz.lA h.n6.1 hT (fun g ⟨i, i1, _, i3⟩ => by rw [i3]; exact (hst i i1).1)
/-- the sets of packs by which v can come -/
def Bs (X N : mv_Mem) (st : Nat → Nat) (T : Nat) (c : Int32) (j : Nat) : Prop := ∃ z, Rch (Gy st (nI j) (2 * (X 3 1).toNatClampNeg)) T z ∧ lhM N 16 z = c
theorem RR.rB (h : RR k X N) {M : mv_Mem} {T v j : Nat} {st : Nat → Nat} (hv : v < 10 ^ nX X) (hM : oOK X M) (hT : T < 4 ^ nX X) (hst : ∀ i, i < 2 * (X 3 1).toNatClampNeg → st i < 4 ^ nX X ∧ lhM N 15 i = nI (st i) ∧ tsF X 57 3 (nX X) (X 3 1).toNatClampNeg 60 i = nI (st i)) :
    rhB M T j v = 1 ↔ Bs X N st T (nI v) j := by
  have n6 := h.n6
  have p4 := p4_le n6.1
  obtain ⟨c, hc⟩ := h.rc (y := nI j) hM hT hst
  unfold rhB
  rw [rh_LQl hc]
  have es : ∀ x, shB (rcM M 57 3 T (nI j)) 3 (nI x) v = shB X 3 (nI x) v := fun x => shB_of ((rcM_O (by decide) (by decide) (by decide) (by decide)).trans (hM.1 3 (by decide) (by decide) (by decide) (by decide))) ((rcM_O (by decide) (by decide) (by decide) (by decide)).trans (hM.1 6 (by decide) (by decide) (by decide) (by decide)))
  constructor
  · rintro ⟨x, -, b2, b3⟩
    have lx := h.rl hT hst b2
    rw [es, sh_iff h hv, ← lh_s16 h lx] at b3
    exact ⟨x, b2, b3⟩
  · rintro ⟨x, b2, b3⟩
    have lx := h.rl hT hst b2
    rw [lh_s16 h lx, ← sh_iff h hv] at b3
    exact ⟨x, by omega, b2, (es x).trans b3⟩
theorem RR.gB (h : RR k X N) {N' : mv_Mem} {T v j : Nat} {st : Nat → Nat} (hN : nOK (lhM N) N') (hT : T < 4 ^ nX X) (eT : hnY N = nI T) (hst : ∀ i, i < 2 * (X 3 1).toNatClampNeg → st i < 4 ^ nX X ∧ lhM N 15 i = nI (st i) ∧ tsF X 57 3 (nX X) (X 3 1).toNatClampNeg 60 i = nI (st i)) :
    (gtM N' (nI v) (nI j)).1 = Int32.ofInt (-4) ↔ ¬ Bs X N st T (nI v) j := by
  have n6 := h.n6
  have p4 := p4_le n6.1
  obtain ⟨g, -⟩ := h.sg
  have e15 := hN.1 15 (by decide) (by decide) (by decide) (by decide)
  have e16 := hN.1 16 (by decide) (by decide) (by decide) (by decide)
  have r := gt_end (y := nI j) (c := nI v) (st := st) (hN.gS g) hT (hN.hn.trans (h.hT.trans eT)) (fun i hi => ⟨(hst i hi).1, by rw [e15]; exact (hst i hi).2.1⟩)
  rw [e16] at r
  rcases r with ⟨a, b, -⟩ | ⟨q, b1, b2, b3, b4⟩
  · refine ⟨fun _ ⟨z, z1, z2⟩ => (b z z1).2 z2, fun _ => a⟩
  · refine ⟨fun a => absurd (b4.symm.trans a) (nI_m4 (by omega)), fun a => absurd ⟨q, b2, b3⟩ a⟩
theorem RR.ap (h : RR k X N) {R R' : mv_Mem} (o1 : oOK X R) (o2 : ∀ c, ¬ c = 0 → ¬ c = 1 → ¬ (15 ≤ c ∧ c ≤ 23) → R' c = N c) (o3 : ∀ j, j < 15 → R' 0 j = N 0 j) (o4 : R' 1 = N 1) : RR (k + 1) R R' :=
  (RR_scr h (fun b hb => o1.1 b (by omega) (by omega) (by omega) (by omega)) o1.2 (fun b hb => o2 b (by omega) (by omega) (by omega)) (fun j hj => o3 j (by omega)) (fun j _ => by rw [o4])).up
theorem nOK.ap {N' : mv_Mem} (h : nOK (lhM N) N') : (∀ c, ¬ c = 0 → ¬ c = 1 → ¬ (15 ≤ c ∧ c ≤ 23) → N' c = N c) ∧ (∀ j, j < 15 → N' 0 j = N 0 j) ∧ N' 1 = N 1 :=
  ⟨fun c h0 h1 h2 => by rw [h.1 c h0 (by omega) (by omega) (by omega), lhM_out h0 (by omega) (by omega) (by omega)], fun j hj => by rw [h.2 j (by omega), lhM_0 (by omega)],
    by rw [h.1 1 (by decide) (by decide) (by decide) (by decide), lhM_out (by decide) (by decide) (by decide) (by decide)]⟩
end
theorem tw_needs (x : Int32) : twn 118 200 [.ref 0, .int x] := by
  apply twn_of
  intro k sx sn X N hk ox om hR
  have n6 := hR.n6
  have t10 := ten_n n6.1
  have p4 := p4_le n6.1
  obtain ⟨et, T, hT, hT2, eT⟩ := hR.tops
  obtain ⟨eE, hP6, e7⟩ := hR.ep
  have px : oX sx ∧ gL X 3 ∧ sT X 57 ∧ (∃ k, k < 4096 ∧ tpX X 18 = nI k) := ⟨ox, hR.lo.1, hR.st, T, hT2, et.trans eT⟩
  have pn : oM sn ∧ gM N ∧ cY N 0 := ⟨om, hR.gm, hR.cy⟩
  by_cases c1 : x < nI 0
  · refine ⟨Int32.ofInt (-1), X, N, fun Q hQ => ?_, fun Q hQ => ?_, hR.up⟩
    · rw [eS118]; exact ⟨x, rfl, px, Qe hQ (if_pos c1) (if_pos c1)⟩
    · rw [eS200]; exact ⟨x, rfl, pn, Qe hQ (if_pos c1) (if_pos c1)⟩
  by_cases c2 : nI (10 ^ nX X) ≤ x
  · refine ⟨Int32.ofInt (-1), X, N, fun Q hQ => ?_, fun Q hQ => ?_, hR.up⟩
    · rw [eS118]; exact ⟨x, rfl, px, Qe hQ ((if_neg c1).trans (if_pos c2)) ((if_neg c1).trans (if_pos c2))⟩
    · rw [eS200]; refine ⟨x, rfl, pn, ?_⟩; rw [n6.2.2.2]; exact Qe hQ ((if_neg c1).trans (if_pos c2)) ((if_neg c1).trans (if_pos c2))
  obtain ⟨v, hv, rfl, -, ev, -⟩ := pk_mu c1 c2 (by omega)
  obtain ⟨g, st, hst⟩ := hR.sg
  have full : ∀ i, i < 2 ^ (X 3 1).toNatClampNeg → Bs X N st T (nI v) i → Bs X N st T (nI v) (2 ^ (X 3 1).toNatClampNeg - 1) := by
    rintro i - ⟨z, z1, z2⟩
    refine ⟨z, z1.mo ?_, z2⟩
    rintro h ⟨j, j1, -, j3⟩
    exact ⟨j, j1, bit_all ⟨(X 3 1).toNatClampNeg, by omega⟩ ⟨j, by omega⟩ j1, j3⟩
  obtain ⟨x1, x2⟩ := ndX_s (OK := oOK X) (B := Bs X N st T (nI v)) (M := X) (x := T) (v := v) hP6 rfl (fun M j hM => hR.rB hv hM hT hst) (fun M y hM => hM.rc n6.1) full ⟨fun _ _ _ _ _ => rfl, hR.st⟩
  obtain ⟨y1, y2⟩ := ndZ_s (OK := nOK (lhM N)) (B := Bs X N st T (nI v)) (x := nI v) hP6 (fun N' j hN => hR.gB hN hT eT hst) (fun N' y hN => hN.gt) (2 ^ (X 3 1).toNatClampNeg) 0 (Int32.ofInt (-4)) (lhM N) (by omega) ⟨fun _ _ _ _ _ => rfl, fun _ _ => rfl⟩ (Or.inl ⟨rfl, fun i hi => absurd hi (by omega)⟩)
  have en : ndW N (nI v) = ndZ (nI v) (2 ^ (X 3 1).toNatClampNeg) 0 (Int32.ofInt (-4)) (lhM N) := by
    unfold ndW
    rw [e7]
  rw [← en] at y1 y2
  have hf : (ndX X T v).1 = (ndW N (nI v)).1 := by
    rcases x2 with ⟨r, a1, a2⟩ | ⟨a1, a2⟩
    · rcases y2 with ⟨b1, b2⟩ | ⟨q, b1, b2⟩
      · exact absurd a2.2.1 (b2 r a2.1)
      · rw [a1, b1, a2.eq b2]
    · rcases y2 with ⟨b1, b2⟩ | ⟨q, b1, b2⟩
      · rw [a1, b1]
      · exact absurd b2.2.1 (a2 q b2.1)
  refine ⟨(ndX X T v).1, (ndX X T v).2, (ndW N (nI v)).2, fun Q hQ => ?_, fun Q hQ => ?_, ?_⟩
  · rw [eS118]
    refine ⟨nI v, rfl, px, ?_⟩
    rw [ev, et, eT, q_cl (show T < 2147483648 by omega)]
    exact Qe hQ ((if_neg c1).trans (if_neg c2)) ((if_neg c1).trans (if_neg c2))
  · rw [eS200]
    refine ⟨nI v, rfl, pn, ?_⟩
    rw [n6.2.2.2]
    exact Qe hQ ((if_neg c1).trans ((if_neg c2).trans hf.symm)) ((if_neg c1).trans (if_neg c2))
  · obtain ⟨z1, z2, z3⟩ := y1.ap
    exact hR.ap x1 z1 z2 z3
theorem tw_fewest (x y : Int32) : twn 103 188 [.ref 0, .int x, .int y] := by
  apply twn_of
  intro k sx sn X N hk ox om hR
  have n6 := hR.n6
  have t10 := ten_n n6.1
  have p4 := p4_le n6.1
  obtain ⟨et, T, hT, hT2, eT⟩ := hR.tops
  have px : oX sx ∧ gL X 3 ∧ sT X 57 ∧ (∃ k, k < 4096 ∧ tpX X 18 = nI k) := ⟨ox, hR.lo.1, hR.st, T, hT2, et.trans eT⟩
  have pn : oM sn ∧ gM N ∧ cY N 0 := ⟨om, hR.gm, hR.cy⟩
  by_cases c1 : x < nI 0
  · refine ⟨Int32.ofInt (-1), X, N, fun Q hQ => ?_, fun Q hQ => ?_, hR.up⟩
    · rw [eS103]; exact ⟨x, y, rfl, px, Qe hQ (if_pos c1) (if_pos c1)⟩
    · rw [eS188]; exact ⟨x, y, rfl, pn, Qe hQ (if_pos c1) (if_pos c1)⟩
  by_cases c2 : nI (10 ^ nX X) ≤ x
  · refine ⟨Int32.ofInt (-1), X, N, fun Q hQ => ?_, fun Q hQ => ?_, hR.up⟩
    · rw [eS103]; exact ⟨x, y, rfl, px, Qe hQ ((if_neg c1).trans (if_pos c2)) ((if_neg c1).trans (if_pos c2))⟩
    · rw [eS188]; refine ⟨x, y, rfl, pn, ?_⟩; rw [n6.2.2.2]; exact Qe hQ ((if_neg c1).trans (if_pos c2)) ((if_neg c1).trans (if_pos c2))
  by_cases c3 : y < Int32.ofInt (-1)
  · refine ⟨Int32.ofInt (-1), X, N, fun Q hQ => ?_, fun Q hQ => ?_, hR.up⟩
    · rw [eS103]; exact ⟨x, y, rfl, px, Qe hQ ((if_neg c1).trans ((if_neg c2).trans (if_pos c3))) ((if_neg c1).trans ((if_neg c2).trans (if_pos c3)))⟩
    · rw [eS188]; refine ⟨x, y, rfl, pn, ?_⟩; rw [n6.2.2.2]; exact Qe hQ ((if_neg c1).trans ((if_neg c2).trans (if_pos c3))) ((if_neg c1).trans ((if_neg c2).trans (if_pos c3)))
  obtain ⟨v, hv, rfl, -, ev, -⟩ := pk_mu c1 c2 (by omega)
  obtain ⟨run, bi⟩ := fw_run hR hT eT hv
  have g := gS_lh hR.gm
  have eH : hnY (lhM N) = nI T := by
    unfold hnY at eT ⊢
    rw [lhM_0 (by decide), lhM_out (by decide) (by decide) (by decide) (by decide)]
    exact eT
  have c := gC_gtM (x := nI v) (y := epY N) g (by rw [n6.2.2.2]; exact hT) eH
  obtain ⟨gS0, gI0⟩ := gI_gt0 g (by rw [n6.2.2.2]; exact hT) eH
  have it := (gIS_gt (x := nI v) (y := epY N) 4097 0 (gt0 (lhM N)) gS0 gI0).2.2
  rw [n6.2.2.2] at c it
  have hf : fwX (skM X 57 3 T v) y = fwY (gtM (lhM N) (nI v) (epY N)) y := by
    unfold fwX fwY
    rcases run with ⟨a, b⟩ | ⟨q, hq, a, b⟩
    · rw [if_pos a, if_pos b]
    · have na : ¬ (skM X 57 3 T v).1 = Int32.ofInt (-1) := by
        rw [a]
        intro z
        have := q_let (Nat.zero_le q) (show q < 2147483648 by omega)
        rw [z] at this
        exact absurd this (by decide)
      have nb : ¬ (gtM (lhM N) (nI v) (epY N)).1 = Int32.ofInt (-4) := by rw [b]; exact nI_m4 (by omega)
      rw [if_neg na, if_neg nb, a, b, q_cl (by omega)]
      rcases it with it | ⟨i, h, hh, i1, i2, i3⟩
      · exact absurd it nb
      obtain rfl : h = q := nI_inj (i1.symm.trans b) (by omega) (by omega)
      obtain ⟨l, l1, l2, -⟩ := id c
      have i3' : i < l := by
        have : (gtM (lhM N) (nI v) (epY N)).2 0 36 = nI l := l1
        have e : ((gtF (nI v) (epY N) 4097 0 (gt0 (lhM N))).2 0 36).toNatClampNeg = l := by
          show ((gtM (lhM N) (nI v) (epY N)).2 0 36).toNatClampNeg = l
          rw [this, q_cl (by omega)]
        rw [e] at i3
        exact i3
      exact fw_gen p4 bi c l1 l2 (by omega) (by omega) i3' i2 hq c3
  refine ⟨fwX (skM X 57 3 T v) y, (skM X 57 3 T v).2, (gtM (lhM N) (nI v) (epY N)).2, fun Q hQ => ?_, fun Q hQ => ?_, ?_⟩
  · rw [eS103]
    refine ⟨nI v, y, rfl, px, ?_⟩
    rw [ev, et, eT, q_cl (show T < 2147483648 by omega)]
    exact Qe hQ ((if_neg c1).trans ((if_neg c2).trans (if_neg c3))) ((if_neg c1).trans ((if_neg c2).trans (if_neg c3)))
  · rw [eS188]
    refine ⟨nI v, y, rfl, pn, ?_⟩
    rw [n6.2.2.2]
    exact Qe hQ ((if_neg c1).trans ((if_neg c2).trans ((if_neg c3).trans hf.symm))) ((if_neg c1).trans ((if_neg c2).trans (if_neg c3)))
  · have o1 : oOK X (skM X 57 3 T v).2 := ⟨fun b h0 h1 h2 h3 => skM_out h0 h1 h2 h3, sT_of (M := tsF X 57 3 (nX X) (X 3 1).toNatClampNeg) (sT_ts hR.st n6.1 _) sk60⟩
    have o2 : nOK (lhM N) (gtM (lhM N) (nI v) (epY N)).2 := nOK.gt ⟨fun _ _ _ _ _ => rfl, fun _ _ => rfl⟩
    obtain ⟨z1, z2, z3⟩ := o2.ap
    exact hR.ap o1 z1 z2 z3
