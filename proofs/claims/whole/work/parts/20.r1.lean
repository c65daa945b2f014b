/-! the two memories alike -/
def nX (X : mv_Mem) : Nat := (X 3 0).toNatClampNeg
/-- a tablet's five figures: the class's at t*5, the model's at t, 6+t, 12+t, 18+t, 24+t -/
def fgR (F G : Nat → Int32) (t : Nat) : Prop := (F (t * 5 + 3) = G (0 + t) ∧ ∃ s, s < 2 ∧ G (0 + t) = nI s) ∧ (F (t * 5 + 0) = G (6 + t) ∧ ∃ h, h < 4 ∧ G (6 + t) = nI h) ∧ (F (t * 5 + 1) = G (12 + t) ∧ tw40 (G (12 + t))) ∧ (F (t * 5 + 2) = G (18 + t) ∧ ∃ f, f ≤ 99 ∧ G (18 + t) = nI f) ∧ (F (t * 5 + 4) = nI 1 ↔ G (24 + t) = nI 1)
def figR (n : Nat) (F G : Nat → Int32) : Prop := (∀ t, t < n → fgR F G t) ∧ ∀ t, n ≤ t → t < 6 → F (t * 5 + 0) = nI 0
def roR (n : Nat) (X N : mv_Mem) (c b i : Nat) : Prop := X (c + 2) (i * 32 + 0) = N 1 (b + 31 + 32 * i) ∧ X (c + 2) (i * 32 + 1) = N 1 (b + 31 + 32 * i + 1) ∧ figR n (fun j => X (c + 2) (i * 32 + 2 + j)) (fun j => N 1 (b + 31 + 32 * i + 2 + j))
/-- a cloth of the class at c, a cloth of the model at b -/
def cR (n : Nat) (X N : mv_Mem) (c b : Nat) : Prop := figR n (X (c + 1)) (fun j => N 1 (b + j)) ∧ ∃ r, r < 25 ∧ X c 2 = nI r ∧ N 1 (b + 30) = nI r ∧ ∀ i, i < r → roR n X N c b i
def loR (X N : mv_Mem) : Prop := gL X 3 ∧ gM N ∧ X 3 0 = N 0 3 ∧ X 3 1 = N 0 7 ∧ X 3 2 = N 0 10 ∧ X 3 3 = N 0 9 ∧ 0 < nX X ∧ 0 < (X 3 1).toNatClampNeg ∧ (∀ t, t < nX X → X 4 t = N 2 t) ∧
  (∀ t h, t < nX X → h < 4 → X 6 (t * 4 + h) = N 3 (4 * t + h) ∧ X 7 (t * 4 + h) = nI (faF (fun h => X 6 (t * 4 + h)) h h)) ∧ (∀ p, p < (X 3 1).toNatClampNeg → X 8 p = N 5 p) ∧ (∀ k, k < (X 3 2).toNatClampNeg → X 9 k = N 6 k)
def RR_lo (X N : mv_Mem) : Prop := loR X N
def RR_cl (X N : mv_Mem) : Prop := cR (nX X) X N 18 0
def RR_un (X N : mv_Mem) : Prop := ∃ e n, e < 8 ∧ n ≤ 8 ∧ X 0 6 &&& nI 7 = nI e ∧ X 0 7 = nI n ∧ N 0 1 = nI n ∧ ∀ i, i < n → cR (nX X) X N (25 + 3 * ((e + 8 - n + i) % 8)) (799 + 799 * i)
def RR_ri (X N : mv_Mem) : Prop := ∀ i, i < 8 → ∃ r, r < 25 ∧ X (25 + 3 * i) 2 = nI r
def RR_ke (X N : mv_Mem) : Prop := ∃ n, n ≤ 2 ∧ X 0 9 = nI n ∧ N 0 2 = nI n ∧ ∀ i, i < n → cR (nX X) X N (50 + 3 * i) (7191 + 799 * i)
def RR_se (X N : mv_Mem) : Prop := ∃ n, n ≤ 6 ∧ X 0 11 = nI n ∧ N 0 14 = nI n ∧ ∀ i, i < n → ∃ v, v < 1000000 ∧ X 56 i = nI v ∧ N 8 i = nI v
def RR_st (X N : mv_Mem) : Prop := sT X 57
def RR_tx (X N : mv_Mem) : Prop := tX X
def RR_gl (X N : mv_Mem) : Prop := gL X 11
def RR_ty (X N : mv_Mem) : Prop := tY N
def RR_le (X N : mv_Mem) : Prop := lx X = ly N
def RR_ln (k : Nat) (X N : mv_Mem) : Prop := ∃ n, n ≤ k ∧ X 1 3 = nI n ∧ N 0 13 = nI n
def RR (k : Nat) (X N : mv_Mem) : Prop := RR_lo X N ∧ RR_cl X N ∧ RR_un X N ∧ RR_ri X N ∧ RR_ke X N ∧ RR_se X N ∧ RR_st X N ∧ RR_tx X N ∧ RR_gl X N ∧ RR_ty X N ∧ RR_le X N ∧ RR_ln k X N
theorem RR.lo {k : Nat} {X N : mv_Mem} (h : RR k X N) : loR X N := h.1
theorem RR.cl {k : Nat} {X N : mv_Mem} (h : RR k X N) : cR (nX X) X N 18 0 := h.2.1
theorem RR.un {k : Nat} {X N : mv_Mem} (h : RR k X N) : ∃ e n, e < 8 ∧ n ≤ 8 ∧ X 0 6 &&& nI 7 = nI e ∧ X 0 7 = nI n ∧ N 0 1 = nI n ∧ ∀ i, i < n → cR (nX X) X N (25 + 3 * ((e + 8 - n + i) % 8)) (799 + 799 * i) := h.2.2.1
theorem RR.ri {k : Nat} {X N : mv_Mem} (h : RR k X N) : ∀ i, i < 8 → ∃ r, r < 25 ∧ X (25 + 3 * i) 2 = nI r := h.2.2.2.1
theorem RR.ke {k : Nat} {X N : mv_Mem} (h : RR k X N) : ∃ n, n ≤ 2 ∧ X 0 9 = nI n ∧ N 0 2 = nI n ∧ ∀ i, i < n → cR (nX X) X N (50 + 3 * i) (7191 + 799 * i) := h.2.2.2.2.1
theorem RR.se {k : Nat} {X N : mv_Mem} (h : RR k X N) : ∃ n, n ≤ 6 ∧ X 0 11 = nI n ∧ N 0 14 = nI n ∧ ∀ i, i < n → ∃ v, v < 1000000 ∧ X 56 i = nI v ∧ N 8 i = nI v := h.2.2.2.2.2.1
theorem RR.st {k : Nat} {X N : mv_Mem} (h : RR k X N) : sT X 57 := h.2.2.2.2.2.2.1
theorem RR.tx {k : Nat} {X N : mv_Mem} (h : RR k X N) : tX X := h.2.2.2.2.2.2.2.1
theorem RR.gl {k : Nat} {X N : mv_Mem} (h : RR k X N) : gL X 11 := h.2.2.2.2.2.2.2.2.1
theorem RR.ty {k : Nat} {X N : mv_Mem} (h : RR k X N) : tY N := h.2.2.2.2.2.2.2.2.2.1
theorem RR.le {k : Nat} {X N : mv_Mem} (h : RR k X N) : lx X = ly N := h.2.2.2.2.2.2.2.2.2.2.1
theorem RR.ln {k : Nat} {X N : mv_Mem} (h : RR k X N) : ∃ n, n ≤ k ∧ X 1 3 = nI n ∧ N 0 13 = nI n := h.2.2.2.2.2.2.2.2.2.2.2
/-- a call of the class's method kc and one of the model's method km: alike in the answer, and alike they leave the two -/
def twn (kc km : Nat) (As : List Value) : Prop := ∀ (k : Nat) sx sn X N, k < 64 → oX sx → oM sn → RR k X N → ∃ (v : Int32) (X' : mv_Mem) (B : mv_Mem → Prop), (∀ Q : mv_Post, Q (some (.int v)) sx X' → mv_S kc As sx X Q) ∧ (∀ Q : mv_Post, (∀ N', B N' → Q (some (.int v)) sn N') → mv_S km As sn N Q) ∧ ∀ N', B N' → RR (k + 1) X' N'
theorem RR.up {k : Nat} {X N : mv_Mem} (h : RR k X N) : RR (k + 1) X N := ⟨h.lo, h.cl, h.un, h.ri, h.ke, h.se, h.st, h.tx, h.gl, h.ty, h.le, by obtain ⟨n, a, b⟩ := h.ln; exact ⟨n, by omega, b⟩⟩
/-- a call that leaves one memory each -/
theorem twn_of {kc km : Nat} {As : List Value} (h : ∀ (k : Nat) sx sn X N, k < 64 → oX sx → oM sn → RR k X N → ∃ (v : Int32) (X' N' : mv_Mem), (∀ Q : mv_Post, Q (some (.int v)) sx X' → mv_S kc As sx X Q) ∧ (∀ Q : mv_Post, Q (some (.int v)) sn N' → mv_S km As sn N Q) ∧ RR (k + 1) X' N') : twn kc km As := by
  intro k sx sn X N hk ox om hR
  obtain ⟨v, X', N', a, b, c⟩ := h k sx sn X N hk ox om hR
  exact ⟨v, X', fun M => M = N', a, fun Q hQ => b Q (hQ N' rfl), fun M e => e ▸ c⟩
/-- a call that only reads -/
theorem twn_rd {kc km : Nat} {As : List Value} (h : ∀ (k : Nat) sx sn X N, k < 64 → oX sx → oM sn → RR k X N → ∃ v : Int32, (∀ Q : mv_Post, Q (some (.int v)) sx X → mv_S kc As sx X Q) ∧ (∀ Q : mv_Post, Q (some (.int v)) sn N → mv_S km As sn N Q)) : twn kc km As := by
  refine twn_of (fun k sx sn X N hk ox om hR => ?_)
  obtain ⟨v, a, b⟩ := h k sx sn X N hk ox om hR
  exact ⟨v, X, N, a, b, hR.up⟩
theorem Qe {Q : mv_Post} {v w : Int32} {sh : mv_Shp} {M M' : mv_Mem} (h : Q (some (.int v)) sh M) (e : w = v) (e2 : M' = M) : Q (some (.int w)) sh M' := by subst e; subst e2; exact h
section
variable {k : Nat} {X N : mv_Mem}
theorem RR.n6 (h : RR k X N) : nX X ≤ 6 ∧ X 3 0 = nI (nX X) ∧ N 0 3 = nI (nX X) ∧ (N 0 3).toNatClampNeg = nX X := by
  obtain ⟨n, h6, hn⟩ := h.lo.1.1
  have e : nX X = n := by unfold nX; rw [hn, q_cl (by omega)]
  have e2 := h.lo.2.2.1
  refine ⟨by omega, by rw [e]; exact hn, by rw [e, ← e2]; exact hn, by rw [← e2]; rfl⟩
theorem RR.x30 (h : RR k X N) : ∃ n, n ≤ 6 ∧ X 3 0 = nI n := ⟨_, h.n6.1, h.n6.2.1⟩
theorem RR.y3 (h : RR k X N) : ∃ n, n ≤ 6 ∧ N 0 3 = nI n := ⟨_, h.n6.1, h.n6.2.2.1⟩
theorem RR.cy (h : RR k X N) : cY N 0 := by
  intro t ht
  rw [h.n6.2.2.2] at ht
  have f := h.cl.1.1 t ht
  exact ⟨by rw [Nat.add_assoc]; exact f.2.1.2, by rw [Nat.add_assoc]; exact f.2.2.1.2, by rw [Nat.add_assoc]; exact f.2.2.2.1.2⟩
theorem RR.gm (h : RR k X N) : gM N := h.lo.2.1
theorem RR.hx (h : RR k X N) : ∀ t, t < 6 → ∃ w, w < 4 ∧ X 19 (t * 5 + 0) = nI w := by
  intro t ht
  by_cases c : t < nX X
  · have f := (h.cl.1.1 t c).2.1
    obtain ⟨w, hw, e⟩ := f.2
    exact ⟨w, hw, f.1.trans e⟩
  · exact ⟨0, by decide, h.cl.1.2 t (by omega) ht⟩
theorem RR.f (h : RR k X N) {t : Nat} (ht : t < nX X) : (X 19 (t * 5 + 3) = N 1 (0 + t) ∧ ∃ s, s < 2 ∧ N 1 (0 + t) = nI s) ∧ (X 19 (t * 5 + 0) = N 1 (6 + t) ∧ ∃ h, h < 4 ∧ N 1 (6 + t) = nI h) ∧ (X 19 (t * 5 + 1) = N 1 (12 + t) ∧ tw40 (N 1 (12 + t))) ∧ (X 19 (t * 5 + 2) = N 1 (18 + t) ∧ ∃ f, f ≤ 99 ∧ N 1 (18 + t) = nI f) ∧ (X 19 (t * 5 + 4) = nI 1 ↔ N 1 (24 + t) = nI 1) := by
  have f := h.cl.1.1 t ht
  unfold fgR at f
  simp only [Nat.zero_add] at f ⊢
  exact f
theorem RR.ro (h : RR k X N) : ∃ r, r < 25 ∧ X 18 2 = nI r ∧ N 1 30 = nI r := by
  obtain ⟨-, r, h1, h2, h3, -⟩ := h.cl
  rw [Nat.zero_add] at h3
  exact ⟨r, h1, h2, h3⟩
end
/-! calls that only read -/
theorem tw_hole (x y : Int32) : twn 106 192 [.ref 0, .int x, .int y] := by
  apply twn_rd
  intro k sx sn X N hk ox om hR
  apply Exists.intro
  apply And.intro
  · intro Q hQ
    rw [eS106]
    exact ⟨x, y, rfl, ⟨ox, hR.x30⟩, hQ⟩
  · intro Q hQ
    rw [eS192]
    refine ⟨x, y, rfl, ⟨om, hR.y3⟩, Qe hQ ?_ rfl⟩
    rw [← hR.lo.2.2.1]
    by_cases c1 : x < nI 0
    · rw [if_pos c1, if_pos c1]
    by_cases c2 : X 3 0 ≤ x
    · rw [if_neg c1, if_neg c1, if_pos c2, if_pos c2]
    by_cases c3 : y < nI 0
    · rw [if_neg c1, if_neg c1, if_neg c2, if_neg c2, if_pos c3, if_pos c3]
    by_cases c4 : nI 4 ≤ y
    · rw [if_neg c1, if_neg c1, if_neg c2, if_neg c2, if_neg c3, if_neg c3, if_pos c4, if_pos c4]
    rw [if_neg c1, if_neg c1, if_neg c2, if_neg c2, if_neg c3, if_neg c3, if_neg c4, if_neg c4]
    rw [hR.n6.2.1] at c2
    have := hR.n6.1
    obtain ⟨t, ht, rfl, -⟩ := pk_mu c1 c2 (by omega)
    obtain ⟨q, hq, rfl, -⟩ := pk_mu c3 c4 (by decide)
    rw [q_cl (by omega), q_cl (by omega)]
    exact (hR.lo.2.2.2.2.2.2.2.2.2.1 t q ht hq).1.symm
theorem tw_pack (x : Int32) : twn 119 201 [.ref 0, .int x] := by
  apply twn_rd
  intro k sx sn X N hk ox om hR
  apply Exists.intro
  apply And.intro
  · intro Q hQ
    rw [eS119]
    exact ⟨x, rfl, ⟨ox, hR.lo.1.2.1⟩, hQ⟩
  · intro Q hQ
    rw [eS201]
    refine ⟨x, rfl, ⟨om, hR.gm.2.1⟩, Qe hQ ?_ rfl⟩
    rw [← hR.lo.2.2.2.1]
    by_cases c1 : x < nI 0
    · rw [if_pos c1, if_pos c1]
    by_cases c2 : X 3 1 ≤ x
    · rw [if_neg c1, if_neg c1, if_pos c2, if_pos c2]
    rw [if_neg c1, if_neg c1, if_neg c2, if_neg c2]
    obtain ⟨n, hn, e⟩ := hR.lo.1.2.1
    rw [e] at c2
    obtain ⟨t, ht, rfl, -⟩ := pk_mu c1 c2 (by omega)
    rw [q_cl (by omega)]
    exact (hR.lo.2.2.2.2.2.2.2.2.2.2.1 t (by rw [e, q_cl (by omega)]; exact ht)).symm
theorem tw_draft (x : Int32) : twn 97 186 [.ref 0, .int x] := by
  apply twn_rd
  intro k sx sn X N hk ox om hR
  apply Exists.intro
  apply And.intro
  · intro Q hQ
    rw [eS97]
    exact ⟨x, rfl, ⟨ox, hR.lo.1.2.2.1, hR.lo.1.2.2.2.2.2.2.2.2.2⟩, hQ⟩
  · intro Q hQ
    rw [eS186]
    refine ⟨x, rfl, ⟨om, hR.gm.2.2.2.1⟩, Qe hQ ?_ rfl⟩
    rw [← hR.lo.2.2.2.2.1]
    by_cases c1 : x < nI 0
    · rw [if_pos c1, if_pos c1]
    by_cases c2 : X 3 2 ≤ x
    · rw [if_neg c1, if_neg c1, if_pos c2, if_pos c2]
    rw [if_neg c1, if_neg c1, if_neg c2, if_neg c2]
    obtain ⟨n, hn, e⟩ := hR.lo.1.2.2.1
    rw [e] at c2
    obtain ⟨t, ht, rfl, -⟩ := pk_mu c1 c2 (by omega)
    rw [q_cl (by omega)]
    exact (hR.lo.2.2.2.2.2.2.2.2.2.2.2 t (by rw [e, q_cl (by omega)]; exact ht)).symm
theorem fg_sn {X N : mv_Mem} {c b t : Nat} (h : fgR (X (c + 1)) (fun j => N 1 (b + j)) t) : snF X c t = snY N b t := by
  unfold snF snY
  have e := h.1.1
  have e4 := h.2.2.2.2
  dsimp only at e e4
  rw [← Nat.add_assoc] at e e4
  by_cases z : X (c + 1) (t * 5 + 4) = nI 1
  · rw [if_pos z, if_pos (e4.mp z), e]
  · rw [if_neg z, if_neg (fun w => z (e4.mpr w)), e]
theorem tw_tablet (x y : Int32) : twn 127 206 [.ref 0, .int x, .int y] := by
  apply twn_rd
  intro k sx sn X N hk ox om hR
  apply Exists.intro
  apply And.intro
  · intro Q hQ
    rw [eS127]
    exact ⟨x, y, rfl, ⟨ox, hR.x30, hR.hx⟩, hQ⟩
  · intro Q hQ
    rw [eS206]
    refine ⟨x, y, rfl, ⟨om, hR.y3, hR.cy⟩, Qe hQ ?_ rfl⟩
    rw [← hR.lo.2.2.1]
    by_cases c1 : x < nI 0
    · rw [if_pos c1, if_pos c1]
    by_cases c2 : X 3 0 ≤ x
    · rw [if_neg c1, if_neg c1, if_pos c2, if_pos c2]
    rw [if_neg c1, if_neg c1, if_neg c2, if_neg c2]
    rw [hR.n6.2.1] at c2
    have := hR.n6.1
    obtain ⟨t, ht, rfl, -⟩ := pk_mu c1 c2 (by omega)
    rw [q_cl (by omega)]
    have f := hR.cl.1.1 t ht
    have s := fg_sn (c := 18) (b := 0) f
    obtain ⟨⟨f1, -⟩, ⟨f2, w, hw, f3⟩, ⟨f4, -⟩, ⟨f5, -⟩, -⟩ := hR.f ht
    unfold tbX tbY
    rw [s, f1, f2, f3, f4, f5, ← hR.lo.2.2.2.2.2.2.2.2.1 t ht, q_cl (by omega), (hR.lo.2.2.2.2.2.2.2.2.2.1 t w ht hw).1]
theorem tw_row (x y : Int32) : twn 123 203 [.ref 0, .int x, .int y] := by
  apply twn_rd
  intro k sx sn X N hk ox om hR
  apply Exists.intro
  apply And.intro
  · intro Q hQ
    rw [eS123]
    obtain ⟨r, h1, h2, h3⟩ := hR.ro
    exact ⟨x, y, rfl, ⟨ox, r, h1, h2⟩, hQ⟩
  · intro Q hQ
    rw [eS203]
    obtain ⟨r, h1, h2, h3⟩ := hR.ro
    refine ⟨x, y, rfl, ⟨om, r, h1, h3⟩, Qe hQ ?_ rfl⟩
    rw [h2, h3]
    by_cases c1 : x < nI 0
    · rw [if_pos c1, if_pos c1]
    by_cases c2 : y < nI 0
    · rw [if_neg c1, if_neg c1, if_pos c2, if_pos c2]
    by_cases c3 : nI 1 < y
    · rw [if_neg c1, if_neg c1, if_neg c2, if_neg c2, if_pos c3, if_pos c3]
    by_cases c4 : nI r ≤ x
    · rw [if_neg c1, if_neg c1, if_neg c2, if_neg c2, if_neg c3, if_neg c3, if_pos c4, if_pos c4]
    rw [if_neg c1, if_neg c1, if_neg c2, if_neg c2, if_neg c3, if_neg c3, if_neg c4, if_neg c4]
    obtain ⟨t, ht, rfl, -⟩ := pk_mu c1 c4 (by omega)
    rw [q_cl (by omega)]
    obtain ⟨-, r', g1, g2, g3, g4⟩ := hR.cl
    obtain rfl : r' = r := nI_inj (g2.symm.trans h2) (by omega) (by omega)
    have f := g4 t ht
    have e1 : X 20 (t * 32 + 0) = N 1 (31 + 32 * t) := by have := f.1; rw [Nat.zero_add] at this; exact this
    have e2 : X 20 (t * 32 + 1) = N 1 (31 + 32 * t + 1) := by have := f.2.1; rw [Nat.zero_add] at this; exact this
    rw [e1, e2]
theorem tw_count (x : Int32) : twn 95 184 [.ref 0, .int x] := by
  apply twn_rd
  intro k sx sn X N hk ox om hR
  apply Exists.intro
  apply And.intro
  · intro Q hQ
    rw [eS95]
    exact ⟨x, rfl, ⟨ox, hR.x30⟩, hQ⟩
  · intro Q hQ
    rw [eS184]
    refine ⟨x, rfl, ⟨om, hR.y3, hR.cy⟩, Qe hQ ?_ rfl⟩
    obtain ⟨r, h1, h2, h3⟩ := hR.ro
    obtain ⟨e, n, -, -, -, u1, u2, -⟩ := hR.un
    obtain ⟨kk, -, k1, k2, -⟩ := hR.ke
    obtain ⟨s, -, s1, s2, -⟩ := hR.se
    obtain ⟨l, -, l1, l2⟩ := hR.ln
    have el : ∀ n, n ≤ nX X → lfF (fun t => X 19 (t * 5 + 2)) n = lfF (fun t => N 1 (18 + t)) n := by
      intro n
      induction n with
      | zero => intro _; rfl
      | succ n ih =>
        intro hn
        have f := (hR.f (t := n) (by omega)).2.2.2.1.1
        unfold lfF
        rw [ih (by omega)]
        rw [f]
    unfold cnF cnY
    rw [hR.n6.2.2.2, ← el _ (Nat.le_refl _), ← hR.lo.2.2.1, ← hR.lo.2.2.2.1, ← hR.lo.2.2.2.2.1, ← hR.lo.2.2.2.2.2.1, h2, h3, u1, u2, k1, k2, s1, s2, l1, l2]
    rfl
