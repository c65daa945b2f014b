/-! the model's object, written by program: at 0, its arrays behind it -/
def oMf : List (Option Value) := [some (.ref 1), none, none, none, some (.ref 2), some (.ref 3), some (.ref 4), none, some (.ref 5), none, none, some (.ref 6), some (.ref 7), none, none, some (.ref 8), some (.ref 9), none, none, none, some (.ref 10), some (.ref 11), some (.ref 12), none, some (.ref 13), none, none, some (.ref 14), some (.ref 15), some (.ref 16), some (.ref 17), some (.ref 18), none, some (.ref 19), some (.ref 20), some (.ref 21), none, some (.ref 22), some (.ref 23)]
def oM (sh : mv_Shp) : Prop := sh[0]? = some (.inr (.inl (5, oMf))) ∧ sh[1]? = some (.inl (0, 9588)) ∧ sh[2]? = some (.inl (0, 6)) ∧ sh[3]? = some (.inl (0, 24)) ∧ sh[4]? = some (.inl (0, 6)) ∧ sh[5]? = some (.inl (0, 6)) ∧ sh[6]? = some (.inl (0, 8)) ∧ sh[7]? = some (.inl (0, 200)) ∧ sh[8]? = some (.inl (0, 6)) ∧ sh[9]? = some (.inl (0, 96)) ∧ sh[10]? = some (.inl (0, 6)) ∧ sh[11]? = some (.inl (0, 6)) ∧ sh[12]? = some (.inl (0, 24)) ∧ sh[13]? = some (.inl (0, 6)) ∧ sh[14]? = some (.inl (0, 8)) ∧ sh[15]? = some (.inl (0, 12)) ∧ sh[16]? = some (.inl (0, 4096)) ∧ sh[17]? = some (.inl (0, 4096)) ∧ sh[18]? = some (.inl (2, 4096)) ∧ sh[19]? = some (.inl (0, 4096)) ∧ sh[20]? = some (.inl (0, 4096)) ∧ sh[21]? = some (.inl (0, 4096)) ∧ sh[22]? = some (.inl (0, 4096)) ∧ sh[23]? = some (.inl (0, 4096))
section
variable {sh : mv_Shp} {M : mv_Mem} {K : mv_Kt} {pc : Nat} {L : mv_Loc} {st : List Value} {c s : Nat}
theorem oM.g0 (h : oM sh) : mv_kgf sh M 0 5 0 K pc L st c s = K pc L (.ref 1 :: st) sh M c s := by
  unfold mv_kgf mv_gf; rw [h.1]; simp [oMf]
theorem oM.g1 (h : oM sh) : mv_kgf sh M 0 5 1 K pc L st c s = K pc L (.int (M 0 1) :: st) sh M c s := by
  unfold mv_kgf mv_gf; rw [h.1]; simp [oMf]
theorem oM.p1 (h : oM sh) {v : Int32} : mv_kpf sh M 0 5 1 v K pc L st c s = K pc L st sh (mv_up M 0 1 v) c s := by
  unfold mv_kpf mv_pf; rw [h.1]; simp [oMf]
theorem oM.g2 (h : oM sh) : mv_kgf sh M 0 5 2 K pc L st c s = K pc L (.int (M 0 2) :: st) sh M c s := by
  unfold mv_kgf mv_gf; rw [h.1]; simp [oMf]
theorem oM.p2 (h : oM sh) {v : Int32} : mv_kpf sh M 0 5 2 v K pc L st c s = K pc L st sh (mv_up M 0 2 v) c s := by
  unfold mv_kpf mv_pf; rw [h.1]; simp [oMf]
theorem oM.g3 (h : oM sh) : mv_kgf sh M 0 5 3 K pc L st c s = K pc L (.int (M 0 3) :: st) sh M c s := by
  unfold mv_kgf mv_gf; rw [h.1]; simp [oMf]
theorem oM.p3 (h : oM sh) {v : Int32} : mv_kpf sh M 0 5 3 v K pc L st c s = K pc L st sh (mv_up M 0 3 v) c s := by
  unfold mv_kpf mv_pf; rw [h.1]; simp [oMf]
theorem oM.g4 (h : oM sh) : mv_kgf sh M 0 5 4 K pc L st c s = K pc L (.ref 2 :: st) sh M c s := by
  unfold mv_kgf mv_gf; rw [h.1]; simp [oMf]
theorem oM.g5 (h : oM sh) : mv_kgf sh M 0 5 5 K pc L st c s = K pc L (.ref 3 :: st) sh M c s := by
  unfold mv_kgf mv_gf; rw [h.1]; simp [oMf]
theorem oM.g6 (h : oM sh) : mv_kgf sh M 0 5 6 K pc L st c s = K pc L (.ref 4 :: st) sh M c s := by
  unfold mv_kgf mv_gf; rw [h.1]; simp [oMf]
theorem oM.g7 (h : oM sh) : mv_kgf sh M 0 5 7 K pc L st c s = K pc L (.int (M 0 7) :: st) sh M c s := by
  unfold mv_kgf mv_gf; rw [h.1]; simp [oMf]
theorem oM.p7 (h : oM sh) {v : Int32} : mv_kpf sh M 0 5 7 v K pc L st c s = K pc L st sh (mv_up M 0 7 v) c s := by
  unfold mv_kpf mv_pf; rw [h.1]; simp [oMf]
theorem oM.g8 (h : oM sh) : mv_kgf sh M 0 5 8 K pc L st c s = K pc L (.ref 5 :: st) sh M c s := by
  unfold mv_kgf mv_gf; rw [h.1]; simp [oMf]
theorem oM.g9 (h : oM sh) : mv_kgf sh M 0 5 9 K pc L st c s = K pc L (.int (M 0 9) :: st) sh M c s := by
  unfold mv_kgf mv_gf; rw [h.1]; simp [oMf]
theorem oM.p9 (h : oM sh) {v : Int32} : mv_kpf sh M 0 5 9 v K pc L st c s = K pc L st sh (mv_up M 0 9 v) c s := by
  unfold mv_kpf mv_pf; rw [h.1]; simp [oMf]
theorem oM.g10 (h : oM sh) : mv_kgf sh M 0 5 10 K pc L st c s = K pc L (.int (M 0 10) :: st) sh M c s := by
  unfold mv_kgf mv_gf; rw [h.1]; simp [oMf]
theorem oM.p10 (h : oM sh) {v : Int32} : mv_kpf sh M 0 5 10 v K pc L st c s = K pc L st sh (mv_up M 0 10 v) c s := by
  unfold mv_kpf mv_pf; rw [h.1]; simp [oMf]
theorem oM.g11 (h : oM sh) : mv_kgf sh M 0 5 11 K pc L st c s = K pc L (.ref 6 :: st) sh M c s := by
  unfold mv_kgf mv_gf; rw [h.1]; simp [oMf]
theorem oM.g12 (h : oM sh) : mv_kgf sh M 0 5 12 K pc L st c s = K pc L (.ref 7 :: st) sh M c s := by
  unfold mv_kgf mv_gf; rw [h.1]; simp [oMf]
theorem oM.g13 (h : oM sh) : mv_kgf sh M 0 5 13 K pc L st c s = K pc L (.int (M 0 13) :: st) sh M c s := by
  unfold mv_kgf mv_gf; rw [h.1]; simp [oMf]
theorem oM.p13 (h : oM sh) {v : Int32} : mv_kpf sh M 0 5 13 v K pc L st c s = K pc L st sh (mv_up M 0 13 v) c s := by
  unfold mv_kpf mv_pf; rw [h.1]; simp [oMf]
theorem oM.g14 (h : oM sh) : mv_kgf sh M 0 5 14 K pc L st c s = K pc L (.int (M 0 14) :: st) sh M c s := by
  unfold mv_kgf mv_gf; rw [h.1]; simp [oMf]
theorem oM.p14 (h : oM sh) {v : Int32} : mv_kpf sh M 0 5 14 v K pc L st c s = K pc L st sh (mv_up M 0 14 v) c s := by
  unfold mv_kpf mv_pf; rw [h.1]; simp [oMf]
theorem oM.g15 (h : oM sh) : mv_kgf sh M 0 5 15 K pc L st c s = K pc L (.ref 8 :: st) sh M c s := by
  unfold mv_kgf mv_gf; rw [h.1]; simp [oMf]
theorem oM.g16 (h : oM sh) : mv_kgf sh M 0 5 16 K pc L st c s = K pc L (.ref 9 :: st) sh M c s := by
  unfold mv_kgf mv_gf; rw [h.1]; simp [oMf]
theorem oM.g17 (h : oM sh) : mv_kgf sh M 0 5 17 K pc L st c s = K pc L (.int (M 0 17) :: st) sh M c s := by
  unfold mv_kgf mv_gf; rw [h.1]; simp [oMf]
theorem oM.p17 (h : oM sh) {v : Int32} : mv_kpf sh M 0 5 17 v K pc L st c s = K pc L st sh (mv_up M 0 17 v) c s := by
  unfold mv_kpf mv_pf; rw [h.1]; simp [oMf]
theorem oM.g18 (h : oM sh) : mv_kgf sh M 0 5 18 K pc L st c s = K pc L (.int (M 0 18) :: st) sh M c s := by
  unfold mv_kgf mv_gf; rw [h.1]; simp [oMf]
theorem oM.p18 (h : oM sh) {v : Int32} : mv_kpf sh M 0 5 18 v K pc L st c s = K pc L st sh (mv_up M 0 18 v) c s := by
  unfold mv_kpf mv_pf; rw [h.1]; simp [oMf]
theorem oM.g19 (h : oM sh) : mv_kgf sh M 0 5 19 K pc L st c s = K pc L (.int (M 0 19) :: st) sh M c s := by
  unfold mv_kgf mv_gf; rw [h.1]; simp [oMf]
theorem oM.p19 (h : oM sh) {v : Int32} : mv_kpf sh M 0 5 19 v K pc L st c s = K pc L st sh (mv_up M 0 19 v) c s := by
  unfold mv_kpf mv_pf; rw [h.1]; simp [oMf]
theorem oM.g20 (h : oM sh) : mv_kgf sh M 0 5 20 K pc L st c s = K pc L (.ref 10 :: st) sh M c s := by
  unfold mv_kgf mv_gf; rw [h.1]; simp [oMf]
theorem oM.g21 (h : oM sh) : mv_kgf sh M 0 5 21 K pc L st c s = K pc L (.ref 11 :: st) sh M c s := by
  unfold mv_kgf mv_gf; rw [h.1]; simp [oMf]
theorem oM.g22 (h : oM sh) : mv_kgf sh M 0 5 22 K pc L st c s = K pc L (.ref 12 :: st) sh M c s := by
  unfold mv_kgf mv_gf; rw [h.1]; simp [oMf]
theorem oM.g23 (h : oM sh) : mv_kgf sh M 0 5 23 K pc L st c s = K pc L (.int (M 0 23) :: st) sh M c s := by
  unfold mv_kgf mv_gf; rw [h.1]; simp [oMf]
theorem oM.p23 (h : oM sh) {v : Int32} : mv_kpf sh M 0 5 23 v K pc L st c s = K pc L st sh (mv_up M 0 23 v) c s := by
  unfold mv_kpf mv_pf; rw [h.1]; simp [oMf]
theorem oM.g24 (h : oM sh) : mv_kgf sh M 0 5 24 K pc L st c s = K pc L (.ref 13 :: st) sh M c s := by
  unfold mv_kgf mv_gf; rw [h.1]; simp [oMf]
theorem oM.g25 (h : oM sh) : mv_kgf sh M 0 5 25 K pc L st c s = K pc L (.int (M 0 25) :: st) sh M c s := by
  unfold mv_kgf mv_gf; rw [h.1]; simp [oMf]
theorem oM.p25 (h : oM sh) {v : Int32} : mv_kpf sh M 0 5 25 v K pc L st c s = K pc L st sh (mv_up M 0 25 v) c s := by
  unfold mv_kpf mv_pf; rw [h.1]; simp [oMf]
theorem oM.g26 (h : oM sh) : mv_kgf sh M 0 5 26 K pc L st c s = K pc L (.int (M 0 26) :: st) sh M c s := by
  unfold mv_kgf mv_gf; rw [h.1]; simp [oMf]
theorem oM.p26 (h : oM sh) {v : Int32} : mv_kpf sh M 0 5 26 v K pc L st c s = K pc L st sh (mv_up M 0 26 v) c s := by
  unfold mv_kpf mv_pf; rw [h.1]; simp [oMf]
theorem oM.g27 (h : oM sh) : mv_kgf sh M 0 5 27 K pc L st c s = K pc L (.ref 14 :: st) sh M c s := by
  unfold mv_kgf mv_gf; rw [h.1]; simp [oMf]
theorem oM.g28 (h : oM sh) : mv_kgf sh M 0 5 28 K pc L st c s = K pc L (.ref 15 :: st) sh M c s := by
  unfold mv_kgf mv_gf; rw [h.1]; simp [oMf]
theorem oM.g29 (h : oM sh) : mv_kgf sh M 0 5 29 K pc L st c s = K pc L (.ref 16 :: st) sh M c s := by
  unfold mv_kgf mv_gf; rw [h.1]; simp [oMf]
theorem oM.g30 (h : oM sh) : mv_kgf sh M 0 5 30 K pc L st c s = K pc L (.ref 17 :: st) sh M c s := by
  unfold mv_kgf mv_gf; rw [h.1]; simp [oMf]
theorem oM.g31 (h : oM sh) : mv_kgf sh M 0 5 31 K pc L st c s = K pc L (.ref 18 :: st) sh M c s := by
  unfold mv_kgf mv_gf; rw [h.1]; simp [oMf]
theorem oM.g32 (h : oM sh) : mv_kgf sh M 0 5 32 K pc L st c s = K pc L (.int (M 0 32) :: st) sh M c s := by
  unfold mv_kgf mv_gf; rw [h.1]; simp [oMf]
theorem oM.p32 (h : oM sh) {v : Int32} : mv_kpf sh M 0 5 32 v K pc L st c s = K pc L st sh (mv_up M 0 32 v) c s := by
  unfold mv_kpf mv_pf; rw [h.1]; simp [oMf]
theorem oM.g33 (h : oM sh) : mv_kgf sh M 0 5 33 K pc L st c s = K pc L (.ref 19 :: st) sh M c s := by
  unfold mv_kgf mv_gf; rw [h.1]; simp [oMf]
theorem oM.g34 (h : oM sh) : mv_kgf sh M 0 5 34 K pc L st c s = K pc L (.ref 20 :: st) sh M c s := by
  unfold mv_kgf mv_gf; rw [h.1]; simp [oMf]
theorem oM.g35 (h : oM sh) : mv_kgf sh M 0 5 35 K pc L st c s = K pc L (.ref 21 :: st) sh M c s := by
  unfold mv_kgf mv_gf; rw [h.1]; simp [oMf]
theorem oM.g36 (h : oM sh) : mv_kgf sh M 0 5 36 K pc L st c s = K pc L (.int (M 0 36) :: st) sh M c s := by
  unfold mv_kgf mv_gf; rw [h.1]; simp [oMf]
theorem oM.p36 (h : oM sh) {v : Int32} : mv_kpf sh M 0 5 36 v K pc L st c s = K pc L st sh (mv_up M 0 36 v) c s := by
  unfold mv_kpf mv_pf; rw [h.1]; simp [oMf]
theorem oM.g37 (h : oM sh) : mv_kgf sh M 0 5 37 K pc L st c s = K pc L (.ref 22 :: st) sh M c s := by
  unfold mv_kgf mv_gf; rw [h.1]; simp [oMf]
theorem oM.g38 (h : oM sh) : mv_kgf sh M 0 5 38 K pc L st c s = K pc L (.ref 23 :: st) sh M c s := by
  unfold mv_kgf mv_gf; rw [h.1]; simp [oMf]
theorem oM.o (h : oM sh) : mv_isO sh (some (.ref 0)) 5 = True := by
  unfold mv_isO; dsimp only; rw [h.1]; simp
theorem oM.z1 (h : oM sh) : sh[1]? = some (.inl (0, 9588)) := h.2.1
theorem oM.l1 (h : oM sh) {i : Nat} (hi : i < 9588) : mv_kld sh M 1 (nI i) K pc L st c s = K pc L (.int (M 1 i) :: st) sh M c s := by
  unfold mv_kld mv_nums; rw [h.z1]; simp only [q_in hi (by decide), q_cl (show i < 2147483648 by omega), true_and]
theorem oM.s1 (h : oM sh) {i : Nat} {x : Int32} (hi : i < 9588) : mv_kst sh M 1 (nI i) x K pc L st c s = K pc L st sh (mv_up M 1 i x) c s := by
  unfold mv_kst mv_nums; rw [h.z1]; simp only [q_in hi (by decide), q_cl (show i < 2147483648 by omega), true_and]
theorem oM.z2 (h : oM sh) : sh[2]? = some (.inl (0, 6)) := h.2.2.1
theorem oM.l2 (h : oM sh) {i : Nat} (hi : i < 6) : mv_kld sh M 2 (nI i) K pc L st c s = K pc L (.int (M 2 i) :: st) sh M c s := by
  unfold mv_kld mv_nums; rw [h.z2]; simp only [q_in hi (by decide), q_cl (show i < 2147483648 by omega), true_and]
theorem oM.s2 (h : oM sh) {i : Nat} {x : Int32} (hi : i < 6) : mv_kst sh M 2 (nI i) x K pc L st c s = K pc L st sh (mv_up M 2 i x) c s := by
  unfold mv_kst mv_nums; rw [h.z2]; simp only [q_in hi (by decide), q_cl (show i < 2147483648 by omega), true_and]
theorem oM.z3 (h : oM sh) : sh[3]? = some (.inl (0, 24)) := h.2.2.2.1
theorem oM.l3 (h : oM sh) {i : Nat} (hi : i < 24) : mv_kld sh M 3 (nI i) K pc L st c s = K pc L (.int (M 3 i) :: st) sh M c s := by
  unfold mv_kld mv_nums; rw [h.z3]; simp only [q_in hi (by decide), q_cl (show i < 2147483648 by omega), true_and]
theorem oM.s3 (h : oM sh) {i : Nat} {x : Int32} (hi : i < 24) : mv_kst sh M 3 (nI i) x K pc L st c s = K pc L st sh (mv_up M 3 i x) c s := by
  unfold mv_kst mv_nums; rw [h.z3]; simp only [q_in hi (by decide), q_cl (show i < 2147483648 by omega), true_and]
theorem oM.z4 (h : oM sh) : sh[4]? = some (.inl (0, 6)) := h.2.2.2.2.1
theorem oM.l4 (h : oM sh) {i : Nat} (hi : i < 6) : mv_kld sh M 4 (nI i) K pc L st c s = K pc L (.int (M 4 i) :: st) sh M c s := by
  unfold mv_kld mv_nums; rw [h.z4]; simp only [q_in hi (by decide), q_cl (show i < 2147483648 by omega), true_and]
theorem oM.s4 (h : oM sh) {i : Nat} {x : Int32} (hi : i < 6) : mv_kst sh M 4 (nI i) x K pc L st c s = K pc L st sh (mv_up M 4 i x) c s := by
  unfold mv_kst mv_nums; rw [h.z4]; simp only [q_in hi (by decide), q_cl (show i < 2147483648 by omega), true_and]
theorem oM.z5 (h : oM sh) : sh[5]? = some (.inl (0, 6)) := h.2.2.2.2.2.1
theorem oM.l5 (h : oM sh) {i : Nat} (hi : i < 6) : mv_kld sh M 5 (nI i) K pc L st c s = K pc L (.int (M 5 i) :: st) sh M c s := by
  unfold mv_kld mv_nums; rw [h.z5]; simp only [q_in hi (by decide), q_cl (show i < 2147483648 by omega), true_and]
theorem oM.s5 (h : oM sh) {i : Nat} {x : Int32} (hi : i < 6) : mv_kst sh M 5 (nI i) x K pc L st c s = K pc L st sh (mv_up M 5 i x) c s := by
  unfold mv_kst mv_nums; rw [h.z5]; simp only [q_in hi (by decide), q_cl (show i < 2147483648 by omega), true_and]
theorem oM.z6 (h : oM sh) : sh[6]? = some (.inl (0, 8)) := h.2.2.2.2.2.2.1
theorem oM.l6 (h : oM sh) {i : Nat} (hi : i < 8) : mv_kld sh M 6 (nI i) K pc L st c s = K pc L (.int (M 6 i) :: st) sh M c s := by
  unfold mv_kld mv_nums; rw [h.z6]; simp only [q_in hi (by decide), q_cl (show i < 2147483648 by omega), true_and]
theorem oM.s6 (h : oM sh) {i : Nat} {x : Int32} (hi : i < 8) : mv_kst sh M 6 (nI i) x K pc L st c s = K pc L st sh (mv_up M 6 i x) c s := by
  unfold mv_kst mv_nums; rw [h.z6]; simp only [q_in hi (by decide), q_cl (show i < 2147483648 by omega), true_and]
theorem oM.z7 (h : oM sh) : sh[7]? = some (.inl (0, 200)) := h.2.2.2.2.2.2.2.1
theorem oM.l7 (h : oM sh) {i : Nat} (hi : i < 200) : mv_kld sh M 7 (nI i) K pc L st c s = K pc L (.int (M 7 i) :: st) sh M c s := by
  unfold mv_kld mv_nums; rw [h.z7]; simp only [q_in hi (by decide), q_cl (show i < 2147483648 by omega), true_and]
theorem oM.s7 (h : oM sh) {i : Nat} {x : Int32} (hi : i < 200) : mv_kst sh M 7 (nI i) x K pc L st c s = K pc L st sh (mv_up M 7 i x) c s := by
  unfold mv_kst mv_nums; rw [h.z7]; simp only [q_in hi (by decide), q_cl (show i < 2147483648 by omega), true_and]
theorem oM.z8 (h : oM sh) : sh[8]? = some (.inl (0, 6)) := h.2.2.2.2.2.2.2.2.1
theorem oM.l8 (h : oM sh) {i : Nat} (hi : i < 6) : mv_kld sh M 8 (nI i) K pc L st c s = K pc L (.int (M 8 i) :: st) sh M c s := by
  unfold mv_kld mv_nums; rw [h.z8]; simp only [q_in hi (by decide), q_cl (show i < 2147483648 by omega), true_and]
theorem oM.s8 (h : oM sh) {i : Nat} {x : Int32} (hi : i < 6) : mv_kst sh M 8 (nI i) x K pc L st c s = K pc L st sh (mv_up M 8 i x) c s := by
  unfold mv_kst mv_nums; rw [h.z8]; simp only [q_in hi (by decide), q_cl (show i < 2147483648 by omega), true_and]
theorem oM.z9 (h : oM sh) : sh[9]? = some (.inl (0, 96)) := h.2.2.2.2.2.2.2.2.2.1
theorem oM.l9 (h : oM sh) {i : Nat} (hi : i < 96) : mv_kld sh M 9 (nI i) K pc L st c s = K pc L (.int (M 9 i) :: st) sh M c s := by
  unfold mv_kld mv_nums; rw [h.z9]; simp only [q_in hi (by decide), q_cl (show i < 2147483648 by omega), true_and]
theorem oM.s9 (h : oM sh) {i : Nat} {x : Int32} (hi : i < 96) : mv_kst sh M 9 (nI i) x K pc L st c s = K pc L st sh (mv_up M 9 i x) c s := by
  unfold mv_kst mv_nums; rw [h.z9]; simp only [q_in hi (by decide), q_cl (show i < 2147483648 by omega), true_and]
theorem oM.z10 (h : oM sh) : sh[10]? = some (.inl (0, 6)) := h.2.2.2.2.2.2.2.2.2.2.1
theorem oM.l10 (h : oM sh) {i : Nat} (hi : i < 6) : mv_kld sh M 10 (nI i) K pc L st c s = K pc L (.int (M 10 i) :: st) sh M c s := by
  unfold mv_kld mv_nums; rw [h.z10]; simp only [q_in hi (by decide), q_cl (show i < 2147483648 by omega), true_and]
theorem oM.s10 (h : oM sh) {i : Nat} {x : Int32} (hi : i < 6) : mv_kst sh M 10 (nI i) x K pc L st c s = K pc L st sh (mv_up M 10 i x) c s := by
  unfold mv_kst mv_nums; rw [h.z10]; simp only [q_in hi (by decide), q_cl (show i < 2147483648 by omega), true_and]
theorem oM.z11 (h : oM sh) : sh[11]? = some (.inl (0, 6)) := h.2.2.2.2.2.2.2.2.2.2.2.1
theorem oM.l11 (h : oM sh) {i : Nat} (hi : i < 6) : mv_kld sh M 11 (nI i) K pc L st c s = K pc L (.int (M 11 i) :: st) sh M c s := by
  unfold mv_kld mv_nums; rw [h.z11]; simp only [q_in hi (by decide), q_cl (show i < 2147483648 by omega), true_and]
theorem oM.s11 (h : oM sh) {i : Nat} {x : Int32} (hi : i < 6) : mv_kst sh M 11 (nI i) x K pc L st c s = K pc L st sh (mv_up M 11 i x) c s := by
  unfold mv_kst mv_nums; rw [h.z11]; simp only [q_in hi (by decide), q_cl (show i < 2147483648 by omega), true_and]
theorem oM.z12 (h : oM sh) : sh[12]? = some (.inl (0, 24)) := h.2.2.2.2.2.2.2.2.2.2.2.2.1
theorem oM.l12 (h : oM sh) {i : Nat} (hi : i < 24) : mv_kld sh M 12 (nI i) K pc L st c s = K pc L (.int (M 12 i) :: st) sh M c s := by
  unfold mv_kld mv_nums; rw [h.z12]; simp only [q_in hi (by decide), q_cl (show i < 2147483648 by omega), true_and]
theorem oM.s12 (h : oM sh) {i : Nat} {x : Int32} (hi : i < 24) : mv_kst sh M 12 (nI i) x K pc L st c s = K pc L st sh (mv_up M 12 i x) c s := by
  unfold mv_kst mv_nums; rw [h.z12]; simp only [q_in hi (by decide), q_cl (show i < 2147483648 by omega), true_and]
theorem oM.z13 (h : oM sh) : sh[13]? = some (.inl (0, 6)) := h.2.2.2.2.2.2.2.2.2.2.2.2.2.1
theorem oM.l13 (h : oM sh) {i : Nat} (hi : i < 6) : mv_kld sh M 13 (nI i) K pc L st c s = K pc L (.int (M 13 i) :: st) sh M c s := by
  unfold mv_kld mv_nums; rw [h.z13]; simp only [q_in hi (by decide), q_cl (show i < 2147483648 by omega), true_and]
theorem oM.s13 (h : oM sh) {i : Nat} {x : Int32} (hi : i < 6) : mv_kst sh M 13 (nI i) x K pc L st c s = K pc L st sh (mv_up M 13 i x) c s := by
  unfold mv_kst mv_nums; rw [h.z13]; simp only [q_in hi (by decide), q_cl (show i < 2147483648 by omega), true_and]
theorem oM.z14 (h : oM sh) : sh[14]? = some (.inl (0, 8)) := h.2.2.2.2.2.2.2.2.2.2.2.2.2.2.1
theorem oM.l14 (h : oM sh) {i : Nat} (hi : i < 8) : mv_kld sh M 14 (nI i) K pc L st c s = K pc L (.int (M 14 i) :: st) sh M c s := by
  unfold mv_kld mv_nums; rw [h.z14]; simp only [q_in hi (by decide), q_cl (show i < 2147483648 by omega), true_and]
theorem oM.s14 (h : oM sh) {i : Nat} {x : Int32} (hi : i < 8) : mv_kst sh M 14 (nI i) x K pc L st c s = K pc L st sh (mv_up M 14 i x) c s := by
  unfold mv_kst mv_nums; rw [h.z14]; simp only [q_in hi (by decide), q_cl (show i < 2147483648 by omega), true_and]
theorem oM.z15 (h : oM sh) : sh[15]? = some (.inl (0, 12)) := h.2.2.2.2.2.2.2.2.2.2.2.2.2.2.2.1
theorem oM.l15 (h : oM sh) {i : Nat} (hi : i < 12) : mv_kld sh M 15 (nI i) K pc L st c s = K pc L (.int (M 15 i) :: st) sh M c s := by
  unfold mv_kld mv_nums; rw [h.z15]; simp only [q_in hi (by decide), q_cl (show i < 2147483648 by omega), true_and]
theorem oM.s15 (h : oM sh) {i : Nat} {x : Int32} (hi : i < 12) : mv_kst sh M 15 (nI i) x K pc L st c s = K pc L st sh (mv_up M 15 i x) c s := by
  unfold mv_kst mv_nums; rw [h.z15]; simp only [q_in hi (by decide), q_cl (show i < 2147483648 by omega), true_and]
theorem oM.z16 (h : oM sh) : sh[16]? = some (.inl (0, 4096)) := h.2.2.2.2.2.2.2.2.2.2.2.2.2.2.2.2.1
theorem oM.l16 (h : oM sh) {i : Nat} (hi : i < 4096) : mv_kld sh M 16 (nI i) K pc L st c s = K pc L (.int (M 16 i) :: st) sh M c s := by
  unfold mv_kld mv_nums; rw [h.z16]; simp only [q_in hi (by decide), q_cl (show i < 2147483648 by omega), true_and]
theorem oM.s16 (h : oM sh) {i : Nat} {x : Int32} (hi : i < 4096) : mv_kst sh M 16 (nI i) x K pc L st c s = K pc L st sh (mv_up M 16 i x) c s := by
  unfold mv_kst mv_nums; rw [h.z16]; simp only [q_in hi (by decide), q_cl (show i < 2147483648 by omega), true_and]
theorem oM.z17 (h : oM sh) : sh[17]? = some (.inl (0, 4096)) := h.2.2.2.2.2.2.2.2.2.2.2.2.2.2.2.2.2.1
theorem oM.l17 (h : oM sh) {i : Nat} (hi : i < 4096) : mv_kld sh M 17 (nI i) K pc L st c s = K pc L (.int (M 17 i) :: st) sh M c s := by
  unfold mv_kld mv_nums; rw [h.z17]; simp only [q_in hi (by decide), q_cl (show i < 2147483648 by omega), true_and]
theorem oM.s17 (h : oM sh) {i : Nat} {x : Int32} (hi : i < 4096) : mv_kst sh M 17 (nI i) x K pc L st c s = K pc L st sh (mv_up M 17 i x) c s := by
  unfold mv_kst mv_nums; rw [h.z17]; simp only [q_in hi (by decide), q_cl (show i < 2147483648 by omega), true_and]
theorem oM.z18 (h : oM sh) : sh[18]? = some (.inl (2, 4096)) := h.2.2.2.2.2.2.2.2.2.2.2.2.2.2.2.2.2.2.1
theorem oM.l18 (h : oM sh) {i : Nat} (hi : i < 4096) : mv_kbl sh M 18 (nI i) K pc L st c s = K pc L (.int (M 18 i) :: st) sh M c s := by
  unfold mv_kbl mv_nums; rw [h.z18]; simp only [q_in hi (by decide), q_cl (show i < 2147483648 by omega), true_and, or_true]
theorem oM.s18 (h : oM sh) {i : Nat} {x : Int32} (hi : i < 4096) (hx : x = nI 0 ∨ x = nI 1) : mv_kbs sh M 18 (nI i) x K pc L st c s = K pc L st sh (mv_up M 18 i x) c s := by
  unfold mv_kbs mv_nums; rw [h.z18]; dsimp only; rw [q_cl (show i < 2147483648 by omega)]; exact propext ⟨fun z => z.2, fun z => ⟨⟨Or.inr ⟨rfl, hx⟩, vp_in_nI hi (by decide)⟩, z⟩⟩
theorem oM.z19 (h : oM sh) : sh[19]? = some (.inl (0, 4096)) := h.2.2.2.2.2.2.2.2.2.2.2.2.2.2.2.2.2.2.2.1
theorem oM.l19 (h : oM sh) {i : Nat} (hi : i < 4096) : mv_kld sh M 19 (nI i) K pc L st c s = K pc L (.int (M 19 i) :: st) sh M c s := by
  unfold mv_kld mv_nums; rw [h.z19]; simp only [q_in hi (by decide), q_cl (show i < 2147483648 by omega), true_and]
theorem oM.s19 (h : oM sh) {i : Nat} {x : Int32} (hi : i < 4096) : mv_kst sh M 19 (nI i) x K pc L st c s = K pc L st sh (mv_up M 19 i x) c s := by
  unfold mv_kst mv_nums; rw [h.z19]; simp only [q_in hi (by decide), q_cl (show i < 2147483648 by omega), true_and]
theorem oM.z20 (h : oM sh) : sh[20]? = some (.inl (0, 4096)) := h.2.2.2.2.2.2.2.2.2.2.2.2.2.2.2.2.2.2.2.2.1
theorem oM.l20 (h : oM sh) {i : Nat} (hi : i < 4096) : mv_kld sh M 20 (nI i) K pc L st c s = K pc L (.int (M 20 i) :: st) sh M c s := by
  unfold mv_kld mv_nums; rw [h.z20]; simp only [q_in hi (by decide), q_cl (show i < 2147483648 by omega), true_and]
theorem oM.s20 (h : oM sh) {i : Nat} {x : Int32} (hi : i < 4096) : mv_kst sh M 20 (nI i) x K pc L st c s = K pc L st sh (mv_up M 20 i x) c s := by
  unfold mv_kst mv_nums; rw [h.z20]; simp only [q_in hi (by decide), q_cl (show i < 2147483648 by omega), true_and]
theorem oM.z21 (h : oM sh) : sh[21]? = some (.inl (0, 4096)) := h.2.2.2.2.2.2.2.2.2.2.2.2.2.2.2.2.2.2.2.2.2.1
theorem oM.l21 (h : oM sh) {i : Nat} (hi : i < 4096) : mv_kld sh M 21 (nI i) K pc L st c s = K pc L (.int (M 21 i) :: st) sh M c s := by
  unfold mv_kld mv_nums; rw [h.z21]; simp only [q_in hi (by decide), q_cl (show i < 2147483648 by omega), true_and]
theorem oM.s21 (h : oM sh) {i : Nat} {x : Int32} (hi : i < 4096) : mv_kst sh M 21 (nI i) x K pc L st c s = K pc L st sh (mv_up M 21 i x) c s := by
  unfold mv_kst mv_nums; rw [h.z21]; simp only [q_in hi (by decide), q_cl (show i < 2147483648 by omega), true_and]
theorem oM.z22 (h : oM sh) : sh[22]? = some (.inl (0, 4096)) := h.2.2.2.2.2.2.2.2.2.2.2.2.2.2.2.2.2.2.2.2.2.2.1
theorem oM.l22 (h : oM sh) {i : Nat} (hi : i < 4096) : mv_kld sh M 22 (nI i) K pc L st c s = K pc L (.int (M 22 i) :: st) sh M c s := by
  unfold mv_kld mv_nums; rw [h.z22]; simp only [q_in hi (by decide), q_cl (show i < 2147483648 by omega), true_and]
theorem oM.s22 (h : oM sh) {i : Nat} {x : Int32} (hi : i < 4096) : mv_kst sh M 22 (nI i) x K pc L st c s = K pc L st sh (mv_up M 22 i x) c s := by
  unfold mv_kst mv_nums; rw [h.z22]; simp only [q_in hi (by decide), q_cl (show i < 2147483648 by omega), true_and]
theorem oM.z23 (h : oM sh) : sh[23]? = some (.inl (0, 4096)) := h.2.2.2.2.2.2.2.2.2.2.2.2.2.2.2.2.2.2.2.2.2.2.2
theorem oM.l23 (h : oM sh) {i : Nat} (hi : i < 4096) : mv_kld sh M 23 (nI i) K pc L st c s = K pc L (.int (M 23 i) :: st) sh M c s := by
  unfold mv_kld mv_nums; rw [h.z23]; simp only [q_in hi (by decide), q_cl (show i < 2147483648 by omega), true_and]
theorem oM.s23 (h : oM sh) {i : Nat} {x : Int32} (hi : i < 4096) : mv_kst sh M 23 (nI i) x K pc L st c s = K pc L st sh (mv_up M 23 i x) c s := by
  unfold mv_kst mv_nums; rw [h.z23]; simp only [q_in hi (by decide), q_cl (show i < 2147483648 by omega), true_and]
end
