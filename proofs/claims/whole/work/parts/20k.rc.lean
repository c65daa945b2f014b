/-! reading out of the class's text changes the reader only -/
theorem fwM_o {M : mv_Mem} {b : Nat} (h : ¬ b = 10) : fwM M b = M b := by unfold fwM; rw [q_upO h]
theorem m32_o {M : mv_Mem} {b : Nat} (h : b < 10 ∨ 17 < b) : m32 M b = M b := by
  unfold m32 atM thM
  split
  · rw [q_upO (by omega), q_upO (by omega), q_upO (by omega), q_upO (by omega), q_upO (by omega), q_upO (by omega), q_upO (by omega), q_upO (by omega), q_upO (by omega), q_upO (by omega), q_upO (by omega), q_upO (by omega)]
  · rw [q_upO (by omega)]
theorem m34_o {M : mv_Mem} {b : Nat} (h : b < 10 ∨ 17 < b) : m34 M b = M b := by
  unfold m34
  split
  · rw [q_upO (by omega), q_upO (by omega), q_upO (by omega)]
  · rw [q_upO (by omega)]
theorem m35_o {M : mv_Mem} {b : Nat} (h : b < 10 ∨ 17 < b) : m35 M b = M b := by
  unfold m35
  split
  · rw [q_upO (by omega), q_upO (by omega)]
  · rw [q_upO (by omega)]
theorem drF_o {T : Nat → Nat} {nP b : Nat} (h : b < 10 ∨ 17 < b) : ∀ n k p (M : mv_Mem), (drF T nP n k p M).2.2.2 b = M b
  | 0, _, _, _ => rfl
  | n + 1, k, p, M => by
    unfold drF
    split
    · rfl
    split
    · rfl
    split
    · rfl
    split
    · rw [drF_o h n, q_upO (by omega), q_upO (by omega)]
    split
    · rw [drF_o h n, q_upO (by omega), q_upO (by omega)]
    · rfl
theorem m38_o {M : mv_Mem} {b : Nat} (h : b < 10 ∨ 17 < b) : m38 M b = M b := by
  unfold m38 drR
  rw [q_upO (by omega), drF_o h, q_upO (by omega)]
theorem m39_o {M : mv_Mem} {b : Nat} (h : b < 10 ∨ 17 < b) : m39 M b = M b := by
  unfold m39
  split
  · rw [m32_o h, fwM_o (by omega)]
  split
  · rw [m34_o h, fwM_o (by omega)]
  split
  · rw [m35_o h, fwM_o (by omega)]
  split
  · rw [m38_o h, fwM_o (by omega)]
  · exact fwM_o (by omega)
theorem rtF_o {b : Nat} (h : b < 10 ∨ 17 < b) : ∀ n (M : mv_Mem), (rtF n M).2 b = M b
  | 0, _ => rfl
  | n + 1, M => by
    unfold rtF
    split
    · split
      · exact m39_o h
      · rw [rtF_o h n, m39_o h]
    · rfl
theorem tdM_o {M : mv_Mem} {b : Nat} (h : b < 10 ∨ 17 < b) : (tdM M).2 b = M b := by
  unfold tdM rt0 clM
  rw [rtF_o h, q_upO (by omega), q_upO (by omega), q_upO (by omega), q_upO (by omega), q_upO (by omega)]
theorem RR_td {k : Nat} {X N N' : mv_Mem} (hR : RR k X N) (rN : rdE N N') : RR (k + 1) (tdM X).2 N' := by
  obtain ⟨t1, -, t2⟩ := iL_td hR.tx hR.gl
  have o : ∀ b, b < 10 ∨ 17 < b → (tdM X).2 b = X b := fun b hb => tdM_o hb
  obtain ⟨r1, r2⟩ := rN
  refine RR_rest hR ⟨fun b hb => o b (by omega), fun j hj => by rw [o 0 (by decide)]⟩ ⟨fun b hb => r1 b (by omega) (by omega), fun j hj => r2 j (by omega) (by omega) (by omega) (by omega) (by omega) (by omega), fun j hj => by rw [r1 1 (by decide) (by decide)]⟩ ?_ ?_ t1 t2 ?_ ?_ ?_
  · obtain ⟨n, hn, a, b, c⟩ := hR.se
    refine ⟨n, hn, by rw [o 0 (by decide)]; exact a, by rw [r2 14 (by decide) (by decide) (by decide) (by decide) (by decide) (by decide)]; exact b, fun i hi => ?_⟩
    rw [o 56 (by decide), r1 8 (by decide) (by decide)]
    exact c i hi
  · intro i hi
    rw [o _ (by decide)]
    exact hR.st i hi
  · exact tY_ofe hR.ty (r2 13 (by decide) (by decide) (by decide) (by decide) (by decide) (by decide)) (r1 7 (by decide) (by decide))
  · unfold RR_le
    rw [lx_ofe (o 1 (by decide)) (o 61 (by decide)), ly_ofe (M := N) (r2 13 (by decide) (by decide) (by decide) (by decide) (by decide) (by decide)) (r1 7 (by decide) (by decide))]
    exact hR.le
  · obtain ⟨n, hn, a, b⟩ := hR.ln
    exact ⟨n, by omega, by rw [o 1 (by decide)]; exact a, by rw [r2 13 (by decide) (by decide) (by decide) (by decide) (by decide) (by decide)]; exact b⟩
theorem tw_fault : twn 98 187 [.ref 0] := by
  intro k sx sn X N hk ox om hR
  refine ⟨(tdM X).1, (tdM X).2, rdE N, fun Q hQ => ?_, fun Q hQ => ?_, fun N' rN => ?_⟩
  · rw [eS98]
    exact ⟨rfl, ⟨ox, hR.tx, hR.gl⟩, hQ⟩
  · rw [eS187]
    refine ⟨X, rfl, om, hR.tx, hR.gl, hR.ty, hR.le, fun e N' rN _ => ?_, fun _ N' rN => hQ N' rN⟩
    rw [← e]
    exact hQ N' rN
  · exact RR_td hR rN
