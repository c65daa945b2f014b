/-! can: the rows that can come are counted -/
section
variable {k : Nat} {X N : mv_Mem}
/-- the class's and the model's number of the like rows -/
theorem RR.al (h : RR k X N) (x : Nat) : akY N x (nX X) = alF X 3 (nI x) (nX X) := by
  have n6 := h.n6.1
  have go : ∀ n, n ≤ nX X → akY N x n = alF X 3 (nI x) n := by
    intro n
    induction n with
    | zero => intro _; rfl
    | succ n ih =>
      intro hn
      obtain ⟨hh, h4, e⟩ := hlF_lt (nI x) n
      have lo := h.lo.2.2.2.2.2.2.2.2.2.1
      unfold akY alF
      rw [ih (by omega), e, q_cl (by omega), show X (3 + 4) = X 7 from rfl, (lo n hh (by omega) h4).2]
      have ef : faF (flG N n) hh hh = faF (fun h => X 6 (n * 4 + h)) hh hh := faF_cong (fun i hi => ((lo n i (by omega) (by omega)).1).symm) hh
      rw [ef]
  exact go _ (Nat.le_refl _)
theorem RR.al2 (h : RR k X N) (x : Nat) : ∃ j, j < 4 ^ nX X ∧ akY N x (nX X) = nI j ∧ alN X 3 x = j := by
  have n6 := h.n6
  have p4 := p4_le n6.1
  obtain ⟨j, hj, e⟩ := akY_lt N x _ n6.1
  refine ⟨j, hj, e, ?_⟩
  unfold alN
  rw [show (X 3 0).toNatClampNeg = nX X from rfl, ← h.al, e, q_cl (by omega)]
theorem RR.sv (h : RR k X N) (x : Nat) : ∃ v, v < 10 ^ nX X ∧ shY N x (nX X) = nI v := by
  have n6 := h.n6.1
  have d := h.dg (nI x)
  have e : shY N x (nX X) = clF (fun t => X (3 + 3) (t * 4 + (hlF (nI x) t).toNatClampNeg)) (nX X) := clF_cong _ (fun t ht => (d t ht).2.symm)
  obtain ⟨c1, c2⟩ := clF_N (g := fun t => X (3 + 3) (t * 4 + (hlF (nI x) t).toNatClampNeg)) (nX X) n6 (fun t ht => (d t ht).1)
  exact ⟨_, c2, e.trans c1⟩
end
theorem alF_cg {M X : mv_Mem} {a : Nat} {x : Int32} (h : M (a + 4) = X (a + 4)) : ∀ n, alF M a x n = alF X a x n
  | 0 => rfl
  | n + 1 => by
    unfold alF
    rw [h, alF_cg h n]
theorem ct_in {X : mv_Mem} {f : Nat → Nat} {l : Nat} (hl : l ≤ 4096) (hA : ∀ x, alN X 3 x < 4096) : ∀ n j {M : mv_Mem} {P : Nat → Prop} {c : Nat}, j + n = l → M 3 = X 3 → M 7 = X 7 → M 57 3 = nI c → c = cN (M 59) 4096 → c ≤ j → (∀ x, x < 4096 → (P x ↔ ¬ M 59 x = nI 0)) → (∀ i, j ≤ i → i < l → f i < 4096 ∧ M 58 i = nI (f i)) →
    ctI 57 3 n j M 57 3 = nI (cN (ctI 57 3 n j M 59) 4096) ∧ (∀ x, x < 4096 → ((P x ∨ ∃ i, j ≤ i ∧ i < l ∧ x = alN X 3 (f i)) ↔ ¬ ctI 57 3 n j M 59 x = nI 0))
  | 0, j, M, P, c, e, _, _, hc, hc2, _, hP, _ => by
    refine ⟨by show M 57 3 = nI (cN (M 59) 4096); rw [← hc2]; exact hc, fun x hx => ?_⟩
    rw [← show (P x ↔ ¬ ctI 57 3 0 j M 59 x = nI 0) from hP x hx]
    exact ⟨fun q => q.elim id (fun ⟨i, a, b, _⟩ => absurd a (by omega)), Or.inl⟩
  | n + 1, j, M, P, c, e, h3, h7, hc, hc2, hcj, hP, hf => by
    obtain ⟨f1, f2⟩ := hf j (Nat.le_refl _) (by omega)
    have ea : alN M 3 (f j) = alN X 3 (f j) := by
      unfold alN
      rw [h3, alF_cg (a := 3) h7]
    have hx := hA (f j)
    have ee : ctI 57 3 (n + 1) j M = ctI 57 3 n (j + 1) (enM M 57 (alN X 3 (f j)) (Int32.ofInt (-1))) := by
      show ctI 57 3 n (j + 1) (enM M 57 (alN M 3 (M (57 + 1) j).toNatClampNeg) (Int32.ofInt (-1))) = _
      rw [show M (57 + 1) j = nI (f j) from f2, q_cl (by omega), ea]
    rw [ee]
    have comb : ∀ {P' : Nat → Prop} {M' : mv_Mem}, (∀ x, P' x ↔ P x ∨ x = alN X 3 (f j)) → (ctI 57 3 n (j + 1) M' 57 3 = nI (cN (ctI 57 3 n (j + 1) M' 59) 4096) ∧ (∀ x, x < 4096 → ((P' x ∨ ∃ i, j + 1 ≤ i ∧ i < l ∧ x = alN X 3 (f i)) ↔ ¬ ctI 57 3 n (j + 1) M' 59 x = nI 0))) →
        (ctI 57 3 n (j + 1) M' 57 3 = nI (cN (ctI 57 3 n (j + 1) M' 59) 4096) ∧ (∀ x, x < 4096 → ((P x ∨ ∃ i, j ≤ i ∧ i < l ∧ x = alN X 3 (f i)) ↔ ¬ ctI 57 3 n (j + 1) M' 59 x = nI 0))) := by
      rintro P' M' hp ⟨k1, k2⟩
      refine ⟨k1, fun x hx => ?_⟩
      rw [← k2 x hx, hp]
      constructor
      · rintro (q | ⟨i, q1, q2, q3⟩)
        · exact Or.inl (Or.inl q)
        · by_cases z : i = j
          · subst z; exact Or.inl (Or.inr q3)
          · exact Or.inr ⟨i, by omega, q2, q3⟩
      · rintro ((q | q) | ⟨i, q1, q2, q3⟩)
        · exact Or.inl q
        · exact Or.inr ⟨j, Nat.le_refl _, by omega, q⟩
        · exact Or.inr ⟨i, by omega, q2, q3⟩
    have hl2 := cN_le (M 59) 4096
    by_cases m : M 59 (alN X 3 (f j)) = nI 0
    · have hlt := cN_lt m 4096 hx
      have e1 : enM M 57 (alN X 3 (f j)) (Int32.ofInt (-1)) = mv_up (mv_up (mv_up M 59 (alN X 3 (f j)) (Int32.ofInt (-1))) 58 c (nI (alN X 3 (f j)))) 57 3 (nI (c + 1)) := by
        unfold enM
        rw [show (57 + 2 : Nat) = 59 from rfl, show (57 + 1 : Nat) = 58 from rfl, if_pos m, hc, q_cl (by omega), if_neg (by omega)]
      rw [e1]
      refine comb (P' := fun x => P x ∨ x = alN X 3 (f j)) (fun x => Iff.rfl) (ct_in hl hA n (j + 1) (c := c + 1) (by omega) ?_ ?_ q_upS ?_ (by omega) (fun x hx' => ?_) (fun i i1 i2 => ?_))
      · rw [q_upO (by decide), q_upO (by decide), q_upO (by decide)]; exact h3
      · rw [q_upO (by decide), q_upO (by decide), q_upO (by decide)]; exact h7
      · rw [q_upO (by decide), q_upO (by decide), cN_up (f := M 59) (x := alN X 3 (f j)) m (by rw [q_upS]; exact m1n0) (fun i hi => q_upN (fun y => hi y.2)), if_pos hx, ← hc2]
      · rw [q_upO (by decide), q_upO (by decide)]
        by_cases z : x = alN X 3 (f j)
        · subst z
          rw [q_upS]
          exact ⟨fun _ => m1n0, fun _ => Or.inr rfl⟩
        · rw [q_upN (fun w => z w.2), ← hP x hx']
          exact ⟨fun q => q.resolve_right z, Or.inl⟩
      · rw [q_upO (by decide), q_upN (by omega), q_upO (by decide)]
        exact hf i (by omega) i2
    · have e1 : enM M 57 (alN X 3 (f j)) (Int32.ofInt (-1)) = M := if_neg m
      rw [e1]
      refine comb (P' := P) (fun x => ⟨Or.inl, ?_⟩) (ct_in hl hA n (j + 1) (c := c) (by omega) h3 h7 hc hc2 (by omega) hP (fun i i1 i2 => hf i (by omega) i2))
      rintro (q | rfl)
      · exact q
      · exact (hP _ hx).mpr m
theorem ctI_O {b : Nat} (h0 : ¬ b = 57) (h1 : ¬ b = 58) (h2 : ¬ b = 59) : ∀ n j (M : mv_Mem), ctI 57 3 n j M b = M b
  | 0, _, _ => rfl
  | n + 1, j, M => by
    unfold ctI
    rw [ctI_O h0 h1 h2 n, enM_out h0 h1 h2]
theorem ctM_O {M : mv_Mem} {b : Nat} (h0 : ¬ b = 57) (h1 : ¬ b = 58) (h2 : ¬ b = 59) : ctM M 57 3 b = M b := by
  unfold ctM ct0
  rw [ctI_O h0 h1 h2, q_upO h0, fiM_out h2]
theorem tlF_O {b : Nat} (h : ¬ b = 18) : ∀ n j (M : mv_Mem) c, (tlF n j M c).2 b = M b
  | 0, _, _, _ => rfl
  | n + 1, j, M, c => by
    unfold tlF
    rw [tlF_O h n, q_upO h]
theorem tl_in {g : Nat → Nat} {A l : Nat} {al : Nat → Nat} (hA : A ≤ 4096) (hg : ∀ i, i < l → g i < A) (ha : ∀ x, x < A → al x < A) : ∀ n j {M : mv_Mem} {P : Nat → Prop} {c : Nat}, j + n = l → (∀ i, i < l → M 21 i = nI (g i)) → (∀ x, x < A → M 17 x = nI (al x)) → c = cN (M 18) A → (∀ x, x < A → (P x ↔ ¬ M 18 x = nI 0)) →
    (tlF n j M c).1 = cN ((tlF n j M c).2 18) A ∧ (∀ x, x < A → ((P x ∨ ∃ i, j ≤ i ∧ i < l ∧ x = al (g i)) ↔ ¬ (tlF n j M c).2 18 x = nI 0))
  | 0, j, M, P, c, e, _, _, hc, hP => ⟨hc, fun x hx => ⟨fun q => (hP x hx).mp (q.elim id (fun ⟨i, a, b, _⟩ => absurd a (by omega))), fun q => Or.inl ((hP x hx).mpr q)⟩⟩
  | n + 1, j, M, P, c, e, h21, h17, hc, hP => by
    have g1 := hg j (by omega)
    have a1 := ha _ g1
    have n10 : ¬ nI 1 = nI 0 := by decide
    unfold tlF
    rw [h21 j (by omega), q_cl (by omega), h17 _ g1, q_cl (by omega)]
    have r := tl_in (P := fun x => P x ∨ x = al (g j)) (c := c + (if M 18 (al (g j)) = nI 0 then 1 else 0)) hA hg ha n (j + 1) (M := mv_up M 18 (al (g j)) (nI 1)) (by omega) (fun i hi => by rw [q_upO (by decide)]; exact h21 i hi) (fun x hx => by rw [q_upO (by decide)]; exact h17 x hx) ?_ (fun x hx => ?_)
    · refine ⟨r.1, fun x hx => ?_⟩
      rw [← r.2 x hx]
      constructor
      · rintro (q | ⟨i, q1, q2, q3⟩)
        · exact Or.inl (Or.inl q)
        · by_cases z : i = j
          · subst z; exact Or.inl (Or.inr q3)
          · exact Or.inr ⟨i, by omega, q2, q3⟩
      · rintro ((q | q) | ⟨i, q1, q2, q3⟩)
        · exact Or.inl q
        · exact Or.inr ⟨j, Nat.le_refl _, by omega, q⟩
        · exact Or.inr ⟨i, by omega, q2, q3⟩
    · by_cases m : M 18 (al (g j)) = nI 0
      · rw [if_pos m, cN_up (f := M 18) (x := al (g j)) m (by rw [q_upS]; exact n10) (fun i hi => q_upN (fun y => hi y.2)), if_pos a1, hc]
      · rw [if_neg m, hc]
        refine (cN_eq A (fun i hi => ?_)).symm
        by_cases z : i = al (g j)
        · subst z
          rw [q_upS]
          exact ⟨fun y => absurd y n10, fun y => absurd y m⟩
        · rw [q_upN (fun y => z y.2)]
    · by_cases z : x = al (g j)
      · subst z
        rw [q_upS]
        exact ⟨fun _ => n10, fun _ => Or.inr rfl⟩
      · rw [q_upN (fun w => z w.2), ← hP x hx]
        exact ⟨fun q => q.resolve_right z, Or.inl⟩
theorem tw_can : twn 90 180 [.ref 0] := by
  apply twn_of
  intro k sx sn X N hk ox om hR
  have n6 := hR.n6
  have p4 := p4_le n6.1
  obtain ⟨et, T, hT, hT2, eT⟩ := hR.tops
  obtain ⟨eE, hP6, e7⟩ := hR.ep
  obtain ⟨g, st, hst⟩ := hR.sg
  have px : oX sx ∧ gL X 3 ∧ sT X 57 ∧ (∃ k, k < 4096 ∧ tpX X 18 = nI k) := ⟨ox, hR.lo.1, hR.st, T, hT2, et.trans eT⟩
  have pn : oM sn ∧ gM N ∧ cY N 0 := ⟨om, hR.gm, hR.cy⟩
  have eM : (nI 1 <<< (X 3 1 &&& 31)) - nI 1 = epY N := by
    obtain ⟨n, hn, x1, y1, -⟩ := hR.p31
    unfold epY
    rw [x1, y1]
  have oX0 : oOK X X := ⟨fun _ _ _ _ _ => rfl, hR.st⟩
  obtain ⟨c, hc⟩ := hR.rc (y := epY N) oX0 hT hst
  have oR := oX0.rc (x := T) (y := epY N) n6.1
  have q7 : rcM X 57 3 T (epY N) 7 = X 7 := rcM_O (by decide) (by decide) (by decide) (by decide)
  have q3 : rcM X 57 3 T (epY N) 3 = X 3 := rcM_O (by decide) (by decide) (by decide) (by decide)
  have gE := gt_end (y := epY N) (c := Int32.ofInt (-1)) (st := st) g hT (hR.hT.trans eT) (fun i hi => ⟨(hst i hi).1, (hst i hi).2.1⟩)
  have rl : ∀ z, Rch (Gy st (epY N) (2 * (X 3 1).toNatClampNeg)) T z → z < 4 ^ nX X := fun z hz => hR.rl hT hst hz
  have oN : nOK (lhM N) (gtM (lhM N) (Int32.ofInt (-1)) (epY N)).2 := nOK.gt ⟨fun _ _ _ _ _ => rfl, fun _ _ => rfl⟩
  obtain ⟨l, hl⟩ : ∃ l', MQl (gtM (lhM N) (Int32.ofInt (-1)) (epY N)).2 (4 ^ nX X) (Rch (Gy st (epY N) (2 * (X 3 1).toNatClampNeg)) T) l' := by
    rcases gE with ⟨-, -, r⟩ | ⟨q, b1, b2, b3, b4⟩
    · exact r
    · exfalso
      obtain ⟨v, v1, v2⟩ := hR.sv q
      rw [lh_s16 hR b1, v2] at b3
      have := nI_nn (k := v) (by have := ten_n n6.1; omega)
      rw [b3] at this
      exact this (by decide)
  -- the class's count
  have hcl := hc.le
  obtain ⟨a1, a2, a3, a4, a5⟩ := id hc
  have hA : ∀ x, alN X 3 x < 4096 := fun x => by obtain ⟨j, j1, -, j3⟩ := hR.al2 x; omega
  have hf : ∀ i, i < c → (rcM X 57 3 T (epY N) 58 i).toNatClampNeg < 4096 ∧ rcM X 57 3 T (epY N) 58 i = nI (rcM X 57 3 T (epY N) 58 i).toNatClampNeg ∧ Rch (Gy st (epY N) (2 * (X 3 1).toNatClampNeg)) T (rcM X 57 3 T (epY N) 58 i).toNatClampNeg := by
    intro i hi
    obtain ⟨x, b1, b2, b3⟩ := a3 i hi
    rw [b2, q_cl (by omega)]
    exact ⟨b1, rfl, b3⟩
  have oC : oOK X (ctM (rcM X 57 3 T (epY N)) 57 3) := by
    refine ⟨fun b h0 h1 h2 h3 => (ctM_O h0 h1 h2).trans (oR.1 b h0 h1 h2 h3), ?_⟩
    exact sT_of (M := rcM X 57 3 T (epY N)) oR.2 (ctM_O (by decide) (by decide) (by decide))
  have eC : ctM (rcM X 57 3 T (epY N)) 57 3 = ctI 57 3 c 0 (ct0 (rcM X 57 3 T (epY N)) 57) := by
    unfold ctM
    rw [a1, q_cl (by omega)]
  have rC := ct_in (X := X) (f := fun i => (rcM X 57 3 T (epY N) 58 i).toNatClampNeg) (l := c) hcl hA c 0 (M := ct0 (rcM X 57 3 T (epY N)) 57) (P := fun _ => False) (c := 0) (by omega)
    (by unfold ct0; rw [q_upO (by decide), fiM_out (by decide)]; exact q3) (by unfold ct0; rw [q_upO (by decide), fiM_out (by decide)]; exact q7) q_upS
    (by unfold ct0; rw [q_upO (by decide), cN_all0 _ (fun i hi => fi_z _ hi)]) (Nat.le_refl _) (fun x hx => by unfold ct0; rw [q_upO (by decide), fi_z _ hx]; exact ⟨fun h => h.elim, fun h => h rfl⟩)
    (fun i _ i2 => ⟨(hf i i2).1, by unfold ct0; rw [q_upO (by decide), fiM_out (by decide)]; exact (hf i i2).2.1⟩)
  rw [← eC] at rC
  -- the model's count
  have hlA := mtF_le (gtM (lhM N) (Int32.ofInt (-1)) (epY N)).2 (4 ^ nX X)
  obtain ⟨b1, b2, b3, b4, b5⟩ := id hl
  have e17 : cnA N 17 = lhM N 17 := by
    unfold cnA
    rw [fiM_out (by decide)]
    exact oN.1 17 (by decide) (by decide) (by decide) (by decide)
  have e21 : cnA N 21 = (gtM (lhM N) (Int32.ofInt (-1)) (epY N)).2 21 := by
    unfold cnA
    rw [fiM_out (by decide)]
  have e36 : cnA N 0 36 = nI l := by
    unfold cnA
    rw [fiM_out (by decide)]
    exact b1
  have hg : ∀ i, i < l → (cnA N 21 i).toNatClampNeg < 4 ^ nX X ∧ cnA N 21 i = nI (cnA N 21 i).toNatClampNeg ∧ Rch (Gy st (epY N) (2 * (X 3 1).toNatClampNeg)) T (cnA N 21 i).toNatClampNeg := by
    intro i hi
    obtain ⟨x, d1, d2, d3⟩ := b3 i hi
    rw [e21, d2, q_cl (by omega)]
    exact ⟨d1, rfl, d3⟩
  have eN : cnM N = tlF l 0 (cnA N) 0 := by
    unfold cnM
    rw [e36, q_cl (by omega)]
  have z18 : ∀ x, x < 4 ^ nX X → cnA N 18 x = nI 0 := by
    intro x hx
    unfold cnA
    rw [n6.2.2.2]
    exact fi_z _ hx
  have rN := tl_in (g := fun i => (cnA N 21 i).toNatClampNeg) (A := 4 ^ nX X) (l := l) (al := fun x => alN X 3 x) p4 (fun i hi => (hg i hi).1) (fun x _ => by obtain ⟨j, j1, -, j3⟩ := hR.al2 x; show alN X 3 x < _; rw [j3]; exact j1) l 0 (M := cnA N) (P := fun _ => False) (c := 0) (by omega)
    (fun i hi => (hg i hi).2.1) (fun x hx => by obtain ⟨j, j1, j2, j3⟩ := hR.al2 x; rw [e17, lh_17 (by rw [n6.2.2.2]; exact hx), n6.2.2.2, j2, j3]) (by rw [cN_all0 _ z18]) (fun x hx => by rw [z18 x hx]; exact ⟨fun h => h.elim, fun h => h rfl⟩)
  rw [← eN] at rN
  have hf2 : ctM (rcM X 57 3 T (epY N)) 57 3 57 3 = nI (cnM N).1 := by
    rw [rC.1, rN.1]
    have tot : ∀ x, x < 4096 → ((∃ i, 0 ≤ i ∧ i < c ∧ x = alN X 3 (rcM X 57 3 T (epY N) 58 i).toNatClampNeg) ↔ ∃ i, 0 ≤ i ∧ i < l ∧ x = alN X 3 (cnA N 21 i).toNatClampNeg) := by
      intro x hx
      constructor
      · rintro ⟨i, -, i2, rfl⟩
        obtain ⟨-, -, d3⟩ := hf i i2
        obtain ⟨j, j1, j2⟩ := b5 _ (rl _ d3) d3
        refine ⟨j, Nat.zero_le _, j1, ?_⟩
        rw [e21, j2, q_cl (by have := rl _ d3; omega)]
      · rintro ⟨i, -, i2, rfl⟩
        obtain ⟨d1, -, d3⟩ := hg i i2
        obtain ⟨j, j1, j2⟩ := a5 _ (by omega) d3
        refine ⟨j, Nat.zero_le _, j1, ?_⟩
        rw [j2, q_cl (by omega)]
    have above : ∀ i, 4 ^ nX X ≤ i → i < 4 ^ nX X + (4096 - 4 ^ nX X) → ctM (rcM X 57 3 T (epY N)) 57 3 59 i = nI 0 := by
      intro i i1 i2
      refine Classical.byContradiction (fun y => ?_)
      rcases (rC.2 i (by omega)).mpr y with q | ⟨j, -, -, q⟩
      · exact q
      · obtain ⟨w, w1, -, w3⟩ := hR.al2 (rcM X 57 3 T (epY N) 58 j).toNatClampNeg
        have : i = w := q.trans w3
        omega
    have s := cN_0 (f := ctM (rcM X 57 3 T (epY N)) 57 3 59) (A := 4 ^ nX X) (4096 - 4 ^ nX X) above
    rw [show 4 ^ nX X + (4096 - 4 ^ nX X) = 4096 by omega] at s
    rw [s]
    refine congrArg nI (cN_eq _ (fun i hi => ?_))
    have u1 := rC.2 i (by omega)
    have u2 := rN.2 i hi
    have u3 := tot i (by omega)
    constructor
    · intro y
      refine Classical.byContradiction (fun z => ?_)
      exact (u1.mp (Or.inr (u3.mpr ((u2.mpr z).resolve_left id)))) y
    · intro y
      refine Classical.byContradiction (fun z => ?_)
      exact (u2.mp (Or.inr (u3.mp ((u1.mpr z).resolve_left id)))) y
  refine ⟨nI (cnM N).1, ctM (rcM X 57 3 T (epY N)) 57 3, (cnM N).2, fun Q hQ => ?_, fun Q hQ => ?_, ?_⟩
  · rw [eS90]
    refine ⟨rfl, px, ?_⟩
    rw [eM, et, eT, q_cl (show T < 2147483648 by omega), hf2]
    exact hQ
  · rw [eS180]
    exact ⟨rfl, pn, hQ⟩
  · have f : ∀ b, ¬ b = 18 → (cnM N).2 b = (gtM (lhM N) (Int32.ofInt (-1)) (epY N)).2 b := by
      intro b hb
      rw [eN, tlF_O hb]
      unfold cnA
      exact fiM_out hb _
    obtain ⟨z1, z2, z3⟩ := oN.ap
    exact hR.ap oC (fun b h0 h1 h2 => (f b (by omega)).trans (z1 b h0 h1 h2)) (fun j hj => by rw [f 0 (by decide)]; exact z2 j hj) ((f 1 (by decide)).trans z3)
