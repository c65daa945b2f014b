theorem lyN_01 (X : mv_Mem) : lyN X = 0 ∨ lyN X = 1 := by
  unfold lyN
  split
  · exact Or.inr rfl
  · exact Or.inl rfl
theorem m46_txt {X : mv_Mem} : m46 X 1 = X 1 ∧ m46 X 61 = X 61 := by
  unfold m46
  split
  · refine ⟨?_, ?_⟩
    · rw [q_upO (by decide), q_upO (by decide), q_upO (by decide), stM_out (by decide) (by decide), lcM_out (by decide), tdM_o (by decide)]
    · rw [q_upO (by decide), q_upO (by decide), q_upO (by decide), stM_out (by decide) (by decide), lcM_out (by decide), tdM_o (by decide)]
  · exact ⟨tdM_o (by decide), tdM_o (by decide)⟩
theorem tw_lay : twn 46 154 [.ref 0] := by
  intro k sx sn X N hk ox om hR
  rcases lyN_01 X with c | c
  · have em : m46 X = (tdM X).2 := if_neg (by rw [c]; decide)
    refine ⟨Int32.ofInt (-2), m46 X, rdE N, fun Q hQ => ?_, fun Q hQ => ?_, fun N' rN => ?_⟩
    · rw [eS46]
      exact ⟨rfl, ⟨ox, hR.tx, hR.gl⟩, Qe hQ (if_neg (by rw [c]; decide)) rfl⟩
    · rw [eS154]
      exact ⟨X, rfl, om, hR.tx, hR.gl, hR.ty, hR.le, fun e => absurd (c.symm.trans e) (by decide), fun _ N' rN => hQ N' rN⟩
    · rw [em]
      exact RR_td hR rN
  · refine ⟨(tdM X).2 11 0, m46 X, fun N' => ∃ N0, rdE N N0 ∧ rB (tdM X).2 N0 ∧ laE N0 N', fun Q hQ => ?_, fun Q hQ => ?_, ?_⟩
    · rw [eS46]
      exact ⟨rfl, ⟨ox, hR.tx, hR.gl⟩, Qe hQ (if_pos c) rfl⟩
    · rw [eS154]
      refine ⟨X, rfl, om, hR.tx, hR.gl, hR.ty, hR.le, fun _ N0 N' rN rb la => ?_, fun e => absurd (c.symm.trans e) (by decide)⟩
      have e0 : N0 0 19 = (tdM X).2 11 0 := by
        obtain ⟨⟨nT, -, a, b, -⟩, -⟩ := rb
        rw [a, b]
      exact Qe (hQ N' ⟨N0, rN, rb, la⟩) e0 rfl
    · rintro N' ⟨N0, ⟨r1, r2⟩, rb, la⟩
      have l := lay_LP (X := X) (X' := m46 X) (N := N0) (N' := N') hR.tx hR.gl c (fun b _ => rfl) rb (laE_F la) hR.e8 hR.ri hR.st
      obtain ⟨b1, b2, b3, b4, b5, b6, b7, b8⟩ := l
      have y13 : N' 0 13 = N 0 13 := by rw [la.2.2.2.2.2.2.2.1, r2 13 (by decide) (by decide) (by decide) (by decide) (by decide) (by decide)]
      have y7 : N' 7 = N 7 := by rw [la.2.2.2.2.2.2.2.2.1, r1 7 (by decide) (by decide)]
      have tt := m46_txt (X := X)
      refine ⟨b1, b2, b3, b4, b5, b6, b7, tX_ofe hR.tx tt.1 tt.2, b8, tY_ofe hR.ty y13 y7, ?_, ?_⟩
      · unfold RR_le
        rw [lx_ofe tt.1 tt.2, ly_ofe y13 y7]
        exact hR.le
      · obtain ⟨n, hn, a, b⟩ := hR.ln
        exact ⟨n, by omega, by rw [tt.1]; exact a, y13.trans b⟩
/-- the two objects as their constructors leave them -/
theorem RR_init {X N N' : mv_Mem} (h : iX0 X) (rb : rB (tdM X).2 N) (la : laE N N') : RR 0 (wpM (m46 X)) (mv_up N' 0 13 (nI 0)) := by
  have w13 : ∀ Y : mv_Mem, wpM Y 1 3 = nI 0 := fun Y => by unfold wpM; split <;> rw [q_upS]
  have w1 : ∀ Y : mv_Mem, wpM Y 1 1 = Y 1 1 := fun Y => by
    unfold wpM
    split
    · rw [q_upN (by decide), q_upN (by decide)]
    · rw [q_upN (by decide)]
  have wo : ∀ (Y : mv_Mem) b, ¬ b = 1 → wpM Y b = Y b := fun Y b hb => by
    unfold wpM
    split
    · rw [q_upO hb, q_upO hb]
    · rw [q_upO hb]
  have gl := h.gl (a := 11) (by decide) (by decide)
  have l1 : lyN X = 1 := ly_1 h.2.2.1 h.2.2.2
  obtain ⟨a1, a2, a3, a4, a5, a6, a7, -, -, c1, c2, c3, c4, c5⟩ := la
  have lf : laF N (mv_up N' 0 13 (nI 0)) := by
    refine ⟨?_, ?_, ?_, ?_, ?_, ?_, ?_, fun t ht => ?_, fun t ht => ?_, fun t ht => ?_, fun t ht => ?_, fun t ht => ?_⟩
    · rw [q_upN (by decide)]; exact a1
    · rw [q_upN (by decide)]; exact a2
    · rw [q_upN (by decide)]; exact a3
    · rw [q_upN (by decide)]; exact a4
    · rw [q_upN (by decide)]; exact a5
    · rw [q_upN (by decide)]; exact a6
    · rw [q_upN (by decide)]; exact a7
    · rw [q_upO (by decide)]; exact c1 t ht
    · rw [q_upO (by decide)]; exact c2 t ht
    · rw [q_upO (by decide)]; exact c3 t ht
    · rw [q_upO (by decide)]; exact c4 t ht
    · rw [q_upO (by decide)]; exact c5 t ht
  obtain ⟨b1, b2, b3, b4, b5, b6, b7, b8⟩ := lay_LP (X := X) (X' := wpM (m46 X)) (N := N) (N' := mv_up N' 0 13 (nI 0)) h.tx gl l1 (fun b hb => wo _ b hb) rb lf ⟨0, by decide, by rw [h.1 0 (by decide) (by decide) 6]; decide⟩ (fun i hi => ⟨0, by decide, h.1 _ (by omega) (by omega) 2⟩) (fun i hi => ⟨0, by decide, h.1 60 (by decide) (by decide) i⟩)
  obtain ⟨-, t3, t4⟩ := tX_46 h.tx gl
  refine ⟨b1, b2, b3, b4, b5, b6, b7, ?_, b8, ?_, ?_, ?_⟩
  · exact ⟨⟨0, by decide, w13 _, fun j hj => absurd hj (by omega)⟩, (w1 _).trans t3, fun j hj => by rw [wo _ 61 (by decide)]; exact t4 j hj⟩
  · exact ⟨0, by decide, q_upS, fun j hj => absurd hj (by omega)⟩
  · unfold RR_le
    funext p
    unfold lx ly
    rw [w13, q_upS, q_cl (by decide), if_neg (by omega), if_neg (by omega)]
  · exact ⟨0, by omega, w13 _, q_upS⟩
