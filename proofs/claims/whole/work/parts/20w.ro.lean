/-! the model's reaching; needs -/
def MQl (N : mv_Mem) (A : Nat) (P : Nat → Prop) (l : Nat) : Prop := N 0 36 = nI l ∧ mtF N A = l ∧ (∀ i, i < l → ∃ h, h < A ∧ N 21 i = nI h ∧ P h) ∧ (∀ h, h < A → (P h ↔ ¬ N 20 h < nI 0)) ∧ ∀ h, h < A → P h → ∃ i, i < l ∧ N 21 i = nI h
theorem MQl.co {N : mv_Mem} {A l : Nat} {P Q : Nat → Prop} (h : MQl N A P l) (e : ∀ x, x < A → (P x ↔ Q x)) : MQl N A Q l := by
  obtain ⟨a1, a2, a3, a4, a5⟩ := h
  refine ⟨a1, a2, fun i hi => ?_, fun x hx => (e x hx).symm.trans (a4 x hx), fun x hx q => a5 x hx ((e x hx).mpr q)⟩
  obtain ⟨x, b1, b2, b3⟩ := a3 i hi
  exact ⟨x, b1, b2, (e x b1).mp b3⟩
theorem MQl.en {N : mv_Mem} {A nP l q : Nat} {P : Nat → Prop} {f b : Int32} (g : gS N A nP) (h : MQl N A P l) (hq : q < A) (hb : ¬ b < nI 0) : ∃ l', l ≤ l' ∧ MQl (coM N q f b) A (fun y => P y ∨ y = q) l' ∧ ∀ i, i < l → coM N q f b 21 i = N 21 i := by
  obtain ⟨a1, a2, a3, a4, a5⟩ := id h
  have hA := gS_A g
  have hl := mtF_le N A
  by_cases m : N 20 q < nI 0
  · have e : coM N q f b = mv_up (mv_up (mv_up (mv_up N 20 q b) 19 q f) 21 l (nI q)) 0 36 (nI (l + 1)) := by
      unfold coM
      rw [if_pos m, a1, q_cl (by omega)]
    rw [e]
    have e20 : (mv_up (mv_up (mv_up (mv_up N 20 q b) 19 q f) 21 l (nI q)) 0 36 (nI (l + 1))) 20 = (mv_up N 20 q b) 20 := by rw [q_upO (by decide), q_upO (by decide), q_upO (by decide)]
    have e21 : ∀ i, ¬ i = l → (mv_up (mv_up (mv_up (mv_up N 20 q b) 19 q f) 21 l (nI q)) 0 36 (nI (l + 1))) 21 i = N 21 i := fun i hi => by rw [q_upO (by decide), q_upN (fun y => hi y.2), q_upO (by decide), q_upO (by decide)]
    have e2l : (mv_up (mv_up (mv_up (mv_up N 20 q b) 19 q f) 21 l (nI q)) 0 36 (nI (l + 1))) 21 l = nI q := by rw [q_upO (by decide), q_upS]
    refine ⟨l + 1, by omega, ⟨q_upS, ?_, fun i hi => ?_, fun y hy => ?_, fun y hy p => ?_⟩, fun i hi => e21 i (by omega)⟩
    · rw [mtF_up (M := N) (h := q) (b := b) ?_ m hb A, if_pos hq, a2]
      rw [e20]
      funext j
      by_cases z : j = q
      · subst z; rw [q_upS, if_pos rfl]
      · rw [q_upN (fun y => z y.2), if_neg z]
    · by_cases z : i = l
      · subst z
        exact ⟨q, hq, e2l, Or.inr rfl⟩
      · obtain ⟨y, b1, b2, b3⟩ := a3 i (by omega)
        exact ⟨y, b1, (e21 i z).trans b2, Or.inl b3⟩
    · rw [e20]
      by_cases z : y = q
      · subst z
        rw [q_upS]
        exact ⟨fun _ => hb, fun _ => Or.inr rfl⟩
      · rw [q_upN (fun w => z w.2), ← a4 y hy]
        exact ⟨fun q => q.resolve_right z, Or.inl⟩
    · by_cases z : y = q
      · subst z
        exact ⟨l, by omega, e2l⟩
      · obtain ⟨i, b1, b2⟩ := a5 y hy (p.resolve_right z)
        exact ⟨i, by omega, (e21 i (by omega)).trans b2⟩
  · have e : coM N q f b = N := if_neg m
    rw [e]
    refine ⟨l, Nat.le_refl _, h.co (fun y hy => ⟨Or.inl, ?_⟩), fun _ _ => rfl⟩
    rintro (p | rfl)
    · exact p
    · exact (a4 y hq).mpr m
theorem MQl.gf {A nP x : Nat} {st : Nat → Nat} {y : Int32} (hx : x < A) : ∀ n s {N : mv_Mem} {P : Nat → Prop} {l : Nat}, s + n = 2 * nP → gS N A nP → MQl N A P l → (∀ i, i < 2 * nP → st i < A ∧ N 15 i = nI (st i)) →
    ∃ l', l ≤ l' ∧ MQl (gfF x y n s N) A (fun z => P z ∨ ∃ i, s ≤ i ∧ i < s + n ∧ y >>> (nI (i / 2) &&& 31) &&& nI 1 = nI 1 ∧ z = adN x (st i)) l' ∧ ∀ i, i < l → gfF x y n s N 21 i = N 21 i
  | 0, s, N, P, l, e, g, h, _ => ⟨l, Nat.le_refl _, h.co (fun z _ => ⟨Or.inl, fun q => q.elim id (fun ⟨i, a, b, _⟩ => absurd a (by omega))⟩), fun _ _ => rfl⟩
  | n + 1, s, N, P, l, e, g, h, hf => by
    obtain ⟨f1, f2⟩ := hf s (by omega)
    have hA := gS_A g
    obtain ⟨-, ⟨m, hm6, eA⟩, -, hP6, -⟩ := id g
    have pl : plN x (st s) < A := by rw [eA] at hx f1 ⊢; exact plN_lt hm6 hx f1
    have ea : plN x (st s) = adN x (st s) := (adN_pl (by omega) (by omega)).symm
    unfold gfF
    by_cases b : y >>> (nI (s / 2) &&& 31) &&& nI 1 = nI 1
    · rw [if_pos b, f2, q_cl (by omega)]
      obtain ⟨l1, b1, b2, b3⟩ := h.en (f := nI x) (b := nI s) g pl (nI_pos (by omega))
      obtain ⟨l2, d1, d2, d3⟩ := MQl.gf (st := st) (y := y) hx n (s + 1) (by omega) (gS_co g) b2 (fun i hi => ⟨(hf i hi).1, by rw [coM_out (by decide) (by decide) (by decide) (by decide)]; exact (hf i hi).2⟩)
      refine ⟨l2, by omega, d2.co (fun z _ => ?_), fun i hi => (d3 i (by omega)).trans (b3 i hi)⟩
      constructor
      · rintro ((q | rfl) | ⟨i, q1, q2, q3, q4⟩)
        · exact Or.inl q
        · exact Or.inr ⟨s, Nat.le_refl _, by omega, b, ea⟩
        · exact Or.inr ⟨i, by omega, by omega, q3, q4⟩
      · rintro (q | ⟨i, q1, q2, q3, q4⟩)
        · exact Or.inl (Or.inl q)
        · by_cases w : i = s
          · subst w; exact Or.inl (Or.inr (q4.trans ea.symm))
          · exact Or.inr ⟨i, by omega, by omega, q3, q4⟩
    · rw [if_neg b]
      obtain ⟨l2, d1, d2, d3⟩ := MQl.gf (st := st) (y := y) hx n (s + 1) (by omega) g h hf
      refine ⟨l2, d1, d2.co (fun z _ => ?_), d3⟩
      constructor
      · rintro (q | ⟨i, q1, q2, q3, q4⟩)
        · exact Or.inl q
        · exact Or.inr ⟨i, by omega, by omega, q3, q4⟩
      · rintro (q | ⟨i, q1, q2, q3, q4⟩)
        · exact Or.inl q
        · by_cases w : i = s
          · subst w; exact absurd q3 b
          · exact Or.inr ⟨i, by omega, by omega, q3, q4⟩
theorem Rch.lA {G : Nat → Prop} {T x n : Nat} (hn : n ≤ 6) (hT : T < 4 ^ n) (hG : ∀ g, G g → g < 4 ^ n) (h : Rch G T x) : x < 4 ^ n := by
  have p4 := p4_le hn
  refine h (fun x => x < 4 ^ n) hT (fun y g hy hg => ?_)
  have := hG g hg
  show adN y g < 4 ^ n
  rw [adN_pl (by omega) (by omega)]
  exact plN_lt hn hy this
theorem MQl.gt {A nP T : Nat} {st : Nat → Nat} {y c : Int32} (hT : T < A) : ∀ n k {N : mv_Mem} {P : Nat → Prop} {l : Nat}, 4097 ≤ n + k → k ≤ l → gS N A nP → MQl N A P l → (∀ i, i < 2 * nP → st i < A ∧ N 15 i = nI (st i)) →
    P T → (∀ z, P z → Rch (Gy st y (2 * nP)) T z) → (∀ i, i < k → ∀ h, h < A → N 21 i = nI h → ¬ N 16 h = c ∧ ∀ g, Gy st y (2 * nP) g → P (adN h g)) →
    ((gtF c y n k N).1 = Int32.ofInt (-4) ∧ (∀ z, Rch (Gy st y (2 * nP)) T z → z < A ∧ ¬ N 16 z = c) ∧ ∃ l', MQl (gtF c y n k N).2 A (Rch (Gy st y (2 * nP)) T) l') ∨ ∃ q, q < A ∧ Rch (Gy st y (2 * nP)) T q ∧ N 16 q = c ∧ (gtF c y n k N).1 = nI q
  | 0, k, N, P, l, e, hk, g, h, _, _, _, _ => by
    have hA := gS_A g
    have := mtF_le N A
    have := h.2.1
    omega
  | n + 1, k, N, P, l, e, hk, g, h, hf, hPT, hPR, hi => by
    have hA := gS_A g
    have hl := mtF_le N A
    obtain ⟨a1, a2, a3, a4, a5⟩ := id h
    unfold gtF
    rw [a1, q_cl (by omega)]
    by_cases w : k < l
    · rw [if_pos w]
      obtain ⟨q, hq, e21, pq⟩ := a3 k w
      rw [e21, q_cl (by omega)]
      by_cases z : N 16 q = c
      · rw [if_pos z]
        exact Or.inr ⟨q, hq, hPR q pq, z, rfl⟩
      · rw [if_neg z]
        have e7 : (N 0 7).toNatClampNeg = nP := by rw [g.2.2.1, q_cl (by have := g.2.2.2.1; omega)]
        have gi : gI N A := ⟨l, a1, a2, fun i hi => by obtain ⟨h, b1, b2, -⟩ := a3 i hi; exact ⟨h, b1, b2⟩⟩
        unfold gfM
        rw [e7]
        obtain ⟨l1, b1, b2, b3⟩ := MQl.gf (st := st) (y := y) hq (2 * nP) 0 (by omega) g h hf
        obtain ⟨g', -⟩ := gIS_gf (y := y) hq (2 * nP) 0 N (by omega) g gi
        have e16 : gfF q y (2 * nP) 0 N 16 = N 16 := gfF_out (by decide) (by decide) (by decide) (by decide) _ _ _
        have e15 : gfF q y (2 * nP) 0 N 15 = N 15 := gfF_out (by decide) (by decide) (by decide) (by decide) _ _ _
        have r := MQl.gt (st := st) (y := y) (c := c) hT n (k + 1) (by omega) (by omega) g' b2 (fun i hi => by rw [e15]; exact hf i hi) (Or.inl hPT) (fun z hz => ?_) (fun i hi' x hx ex => ?_)
        · rw [e16] at r
          exact r
        · rcases hz with hz | ⟨i, -, i2, i3, rfl⟩
          · exact hPR z hz
          · exact (hPR q pq).s ⟨i, by omega, i3, rfl⟩
        · rw [e16]
          rw [b3 i (by omega)] at ex
          by_cases v : i = k
          · subst v
            obtain rfl : q = x := nI_inj (e21.symm.trans ex) (by omega) (by omega)
            refine ⟨z, fun g hg => ?_⟩
            obtain ⟨j, j1, j2, rfl⟩ := hg
            exact Or.inr ⟨j, by omega, by omega, j2, rfl⟩
          · obtain ⟨d1, d2⟩ := hi i (by omega) x hx ex
            exact ⟨d1, fun g hg => Or.inl (d2 g hg)⟩
    · rw [if_neg w]
      obtain rfl : k = l := by omega
      have all : ∀ z, Rch (Gy st y (2 * nP)) T z → P z ∧ z < A := by
        intro z hz
        refine hz (fun z => P z ∧ z < A) ⟨hPT, hT⟩ ?_
        rintro x h' ⟨p1, p2⟩ hg
        obtain ⟨i, i1, i2⟩ := a5 x p2 p1
        refine ⟨(hi i i1 x p2 i2).2 h' hg, ?_⟩
        obtain ⟨j, j1, -, rfl⟩ := hg
        obtain ⟨f1, -⟩ := hf j j1
        obtain ⟨-, ⟨m, hm6, eA⟩, -, -, -⟩ := id g
        rw [adN_pl (by omega) (by omega)]
        rw [eA] at p2 f1 ⊢
        exact plN_lt hm6 p2 f1
      refine Or.inl ⟨rfl, fun z hz => ?_, k, h.co (fun z hz => ⟨hPR z, fun r => (all z r).1⟩)⟩
      obtain ⟨p1, p2⟩ := all z hz
      obtain ⟨i, i1, i2⟩ := a5 z p2 p1
      exact ⟨p2, (hi i i1 z p2 i2).1⟩
theorem MQl.z {N : mv_Mem} {A : Nat} (h36 : N 0 36 = nI 0) (h20 : ∀ i, i < A → N 20 i < nI 0) : MQl N A (fun _ => False) 0 :=
  ⟨h36, mtF_0 _ h20, fun i hi => absurd hi (by omega), fun x hx => ⟨fun h => h.elim, fun h => absurd (h20 x hx) h⟩, fun _ _ h => h.elim⟩
/-- the model's search from the tops of the cloth -/
theorem gt_end {N : mv_Mem} {A nP T : Nat} {st : Nat → Nat} {y c : Int32} (g : gS N A nP) (hT : T < A) (eT : hnY N = nI T) (hf : ∀ i, i < 2 * nP → st i < A ∧ N 15 i = nI (st i)) :
    ((gtM N c y).1 = Int32.ofInt (-4) ∧ (∀ z, Rch (Gy st y (2 * nP)) T z → z < A ∧ ¬ N 16 z = c) ∧ ∃ l', MQl (gtM N c y).2 A (Rch (Gy st y (2 * nP)) T) l') ∨ ∃ q, q < A ∧ Rch (Gy st y (2 * nP)) T q ∧ N 16 q = c ∧ (gtM N c y).1 = nI q := by
  have hA := gS_A g
  have e32 : (N 0 32).toNatClampNeg = A := by rw [g.1, q_cl (by omega)]
  have g1 : gS (mv_up (fiM N 20 (Int32.ofInt (-1)) A) 0 36 (nI 0)) A nP := gS_of g (by rw [q_upN (by decide), fiM_out (by decide)]) (by rw [q_upN (by decide), fiM_out (by decide)]) (by rw [q_upO (by decide), fiM_out (by decide)])
  have m0 : MQl (mv_up (fiM N 20 (Int32.ofInt (-1)) A) 0 36 (nI 0)) A (fun _ => False) 0 := MQl.z q_upS (fun i hi => by rw [q_upO (by decide), fiM_in _ _ hi]; decide)
  obtain ⟨l, -, m1, -⟩ := m0.en (f := Int32.ofInt (-4)) (b := nI 99) g1 hT (nI_pos (by decide))
  have m2 := m1.co (Q := fun x => x = T) (fun x _ => ⟨fun h => h.resolve_left id, Or.inr⟩)
  have e15 : (coM (mv_up (fiM N 20 (Int32.ofInt (-1)) A) 0 36 (nI 0)) T (Int32.ofInt (-4)) (nI 99)) 15 = N 15 := by rw [coM_out (by decide) (by decide) (by decide) (by decide), q_upO (by decide), fiM_out (by decide)]
  have e16 : (coM (mv_up (fiM N 20 (Int32.ofInt (-1)) A) 0 36 (nI 0)) T (Int32.ofInt (-4)) (nI 99)) 16 = N 16 := by rw [coM_out (by decide) (by decide) (by decide) (by decide), q_upO (by decide), fiM_out (by decide)]
  have e : gt0 N = coM (mv_up (fiM N 20 (Int32.ofInt (-1)) A) 0 36 (nI 0)) T (Int32.ofInt (-4)) (nI 99) := by
    unfold gt0
    rw [e32, eT, q_cl (by omega)]
  unfold gtM
  rw [e]
  have r := MQl.gt (st := st) (y := y) (c := c) hT 4097 0 (by decide) (Nat.zero_le _) (gS_co g1) m2 (fun i hi => by rw [e15]; exact hf i hi) rfl (fun z hz => by rw [hz]; exact Rch.z) (fun i hi => absurd hi (by omega))
  rw [e16] at r
  exact r
/-- does the class's list tell of v -/
theorem rh_1 {M : mv_Mem} {v c : Nat} : ∀ n i, i + n = c → (rhF M 57 3 v n i = 1 ↔ ∃ j, i ≤ j ∧ j < c ∧ shB M 3 (M 58 j) v = 1)
  | 0, i, e => by
    unfold rhF
    exact ⟨fun h => absurd h (by decide), fun ⟨j, a, b, _⟩ => absurd a (by omega)⟩
  | n + 1, i, e => by
    have ih := rh_1 (M := M) (v := v) (c := c) n (i + 1) (by omega)
    unfold rhF
    rw [show (57 + 1 : Nat) = 58 from rfl]
    by_cases z : shB M 3 (M 58 i) v = 1
    · rw [if_pos z]
      exact ⟨fun _ => ⟨i, Nat.le_refl _, by omega, z⟩, fun _ => rfl⟩
    · rw [if_neg z, ih]
      constructor
      · rintro ⟨j, a, b, d⟩; exact ⟨j, by omega, b, d⟩
      · rintro ⟨j, a, b, d⟩
        by_cases w : j = i
        · subst w; exact absurd d z
        · exact ⟨j, by omega, b, d⟩
theorem rh_LQl {M : mv_Mem} {P : Nat → Prop} {v c : Nat} (h : LQl M P c) : rhF M 57 3 v (M 57 3).toNatClampNeg 0 = 1 ↔ ∃ x, x < 4096 ∧ P x ∧ shB M 3 (nI x) v = 1 := by
  have hc := h.le
  obtain ⟨a1, a2, a3, a4, a5⟩ := id h
  rw [a1, q_cl (by omega), rh_1 (c := c) c 0 (by omega)]
  constructor
  · rintro ⟨j, -, b, d⟩
    obtain ⟨x, d1, d2, d3⟩ := a3 j b
    exact ⟨x, d1, d3, by rw [← d2]; exact d⟩
  · rintro ⟨x, b1, b2, b3⟩
    obtain ⟨j, d1, d2⟩ := a5 x b1 b2
    exact ⟨j, Nat.zero_le _, d1, by rw [d2]; exact b3⟩
