/-! code lists and step rows, written by program -/
section CD
variable {S : Nat → mv_Sp} {P : mv_Post} {L : mv_Loc} {st : List Value} {sh : mv_Shp} {M : mv_Mem} {c s : Nat}
-- 92: TurnedTablets.comb(I)I
def mk92 : mv_Cd := [
  (0, .aload_n 0, 1, []),
  (1, .iload_n 1, 1, []),
  (2, .invokevirtual 109, 3, [0, 91, 2, 4, 0, 0, 0, 598, 600, 20, 104, 601]),
  (5, .ifCond .ne 5, 3, [10]),
  (8, .iconst (-1), 1, []),
  (9, .ireturn, 1, [0]),
  (10, .aload_n 0, 1, []),
  (11, .invokevirtual 160, 3, [0, 53, 1, 4, 0, 0, 0, 679, 681, 32, 104, 682]),
  (14, .aload_n 0, 1, []),
  (15, .getfield 35, 3, [526, 0, 4, 3]),
  (18, .iload_n 1, 1, []),
  (19, .iconst 1, 1, []),
  (20, .invokevirtual 117, 3, [1, 61, 3, 0, 0, 0, 606, 608, 22, 111, 609]),
  (23, .istore_n 2, 1, []),
  (24, .aload_n 0, 1, []),
  (25, .getfield 35, 3, [526, 0, 4, 3]),
  (28, .iload_n 1, 1, []),
  (29, .iconst 1, 1, []),
  (30, .iconst 0, 1, []),
  (31, .invokevirtual 182, 3, [1, 44, 4, 0, 0, 0, 753, 501, 19, 111, 502]),
  (34, .iload_n 2, 1, []),
  (35, .bipush 40, 2, []),
  (37, .iadd, 1, []),
  (38, .ireturn, 1, [0])]
def mr92 (S : Nat → mv_Sp) (P : mv_Post) : mv_Kt := mv_R mv_DF mk92 S (0, 0) P
theorem e92_0 : mr92 S P 0 L st sh M c s = (q_isA (q_gv L 0) ∧ mr92 S P 1 L (q_gv L 0 :: st) sh M c s) := (propext (mv_R_iff (i := .aload_n 0) (len := 1) (ax := []) (by decide +kernel))).trans (q_ldA_eq (K := fun st => mr92 S P 1 L st sh M c s))
theorem e92_1 : mr92 S P 1 L st sh M c s = (q_isI (q_gv L 1) ∧ mr92 S P 2 L (q_gv L 1 :: st) sh M c s) := (propext (mv_R_iff (i := .iload_n 1) (len := 1) (ax := []) (by decide +kernel))).trans (q_ldI_eq (K := fun st => mr92 S P 2 L st sh M c s))
theorem e92_2 {v2 : Value} {v1 : Value} : mr92 S P 2 L (v2 :: v1 :: st) sh M c s = (mv_ss st ≤ 8 ∧ c ≤ 0 ∧ s ≤ 0 ∧ mv_isO sh (some v1) 4 ∧ mv_kal S 91 [v1, v2] sh M (mr92 S P) 5 L st c s) := (propext (mv_R_iff (i := .invokevirtual 109) (len := 3) (ax := [0, 91, 2, 4, 0, 0, 0, 598, 600, 20, 104, 601]) (by decide +kernel))).trans (q_call0)
theorem e92_5 {x : Int32} : mr92 S P 5 L (.int x :: st) sh M c s = (if x = nI 0 then mr92 S P 8 L st sh M c s else mr92 S P 10 L st sh M c s) := (propext (mv_R_iff (i := .ifCond .ne 5) (len := 3) (ax := [10]) (by decide +kernel))).trans (q_br')
theorem e92_8 : mr92 S P 8 L st sh M c s = (mr92 S P 9 L (.int (Int32.ofInt (-1)) :: st) sh M c s) := propext (mv_R_iff (i := .iconst (-1)) (len := 1) (ax := []) (by decide +kernel))
theorem e92_9 {x : Int32} : mr92 S P 9 L [.int x] sh M c s = (mv_nr 0 x ∧ P (some (.int x)) sh M) := propext (mv_R_iff (i := .ireturn) (len := 1) (ax := [0]) (by decide +kernel))
theorem e92_10 : mr92 S P 10 L st sh M c s = (q_isA (q_gv L 0) ∧ mr92 S P 11 L (q_gv L 0 :: st) sh M c s) := (propext (mv_R_iff (i := .aload_n 0) (len := 1) (ax := []) (by decide +kernel))).trans (q_ldA_eq (K := fun st => mr92 S P 11 L st sh M c s))
theorem e92_11 {v1 : Value} : mr92 S P 11 L (v1 :: st) sh M c s = (mv_ss st ≤ 8 ∧ c ≤ 0 ∧ s ≤ 0 ∧ mv_isO sh (some v1) 4 ∧ mv_kal S 53 [v1] sh M (mr92 S P) 14 L st c s) := (propext (mv_R_iff (i := .invokevirtual 160) (len := 3) (ax := [0, 53, 1, 4, 0, 0, 0, 679, 681, 32, 104, 682]) (by decide +kernel))).trans (q_call0)
theorem e92_14 : mr92 S P 14 L st sh M c s = (q_isA (q_gv L 0) ∧ mr92 S P 15 L (q_gv L 0 :: st) sh M c s) := (propext (mv_R_iff (i := .aload_n 0) (len := 1) (ax := []) (by decide +kernel))).trans (q_ldA_eq (K := fun st => mr92 S P 15 L st sh M c s))
theorem e92_15 {a : Nat} : mr92 S P 15 L (.ref a :: st) sh M c s = (mv_kgf sh M a 4 3 (mr92 S P) 18 L st c s) := propext (mv_R_iff (i := .getfield 35) (len := 3) (ax := [526, 0, 4, 3]) (by decide +kernel))
theorem e92_18 : mr92 S P 18 L st sh M c s = (q_isI (q_gv L 1) ∧ mr92 S P 19 L (q_gv L 1 :: st) sh M c s) := (propext (mv_R_iff (i := .iload_n 1) (len := 1) (ax := []) (by decide +kernel))).trans (q_ldI_eq (K := fun st => mr92 S P 19 L st sh M c s))
theorem e92_19 : mr92 S P 19 L st sh M c s = (mr92 S P 20 L (.int (nI 1) :: st) sh M c s) := propext (mv_R_iff (i := .iconst 1) (len := 1) (ax := []) (by decide +kernel))
theorem e92_20 {v3 : Value} {v2 : Value} {v1 : Value} : mr92 S P 20 L (v3 :: v2 :: v1 :: st) sh M c s = (mv_ss st ≤ 8 ∧ c ≤ 0 ∧ s ≤ 0 ∧ mv_isO sh (some v1) 0 ∧ mv_kal S 61 [v1, v2, v3] sh M (mr92 S P) 23 L st c s) := (propext (mv_R_iff (i := .invokevirtual 117) (len := 3) (ax := [1, 61, 3, 0, 0, 0, 606, 608, 22, 111, 609]) (by decide +kernel))).trans (q_call1)
theorem e92_23 {x : Int32} : mr92 S P 23 L (.int x :: st) sh M c s = (q_hs L 2 ∧ mr92 S P 24 (L.set 2 (some (.int x))) st sh M c s) := (propext (mv_R_iff (i := .istore_n 2) (len := 1) (ax := []) (by decide +kernel))).trans (q_st_eq (K := fun L => mr92 S P 24 L st sh M c s))
theorem e92_24 : mr92 S P 24 L st sh M c s = (q_isA (q_gv L 0) ∧ mr92 S P 25 L (q_gv L 0 :: st) sh M c s) := (propext (mv_R_iff (i := .aload_n 0) (len := 1) (ax := []) (by decide +kernel))).trans (q_ldA_eq (K := fun st => mr92 S P 25 L st sh M c s))
theorem e92_25 {a : Nat} : mr92 S P 25 L (.ref a :: st) sh M c s = (mv_kgf sh M a 4 3 (mr92 S P) 28 L st c s) := propext (mv_R_iff (i := .getfield 35) (len := 3) (ax := [526, 0, 4, 3]) (by decide +kernel))
theorem e92_28 : mr92 S P 28 L st sh M c s = (q_isI (q_gv L 1) ∧ mr92 S P 29 L (q_gv L 1 :: st) sh M c s) := (propext (mv_R_iff (i := .iload_n 1) (len := 1) (ax := []) (by decide +kernel))).trans (q_ldI_eq (K := fun st => mr92 S P 29 L st sh M c s))
theorem e92_29 : mr92 S P 29 L st sh M c s = (mr92 S P 30 L (.int (nI 1) :: st) sh M c s) := propext (mv_R_iff (i := .iconst 1) (len := 1) (ax := []) (by decide +kernel))
theorem e92_30 : mr92 S P 30 L st sh M c s = (mr92 S P 31 L (.int (nI 0) :: st) sh M c s) := propext (mv_R_iff (i := .iconst 0) (len := 1) (ax := []) (by decide +kernel))
theorem e92_31 {v4 : Value} {v3 : Value} {v2 : Value} {v1 : Value} : mr92 S P 31 L (v4 :: v3 :: v2 :: v1 :: st) sh M c s = (mv_ss st ≤ 8 ∧ c ≤ 0 ∧ s ≤ 0 ∧ mv_isO sh (some v1) 0 ∧ mv_kal S 44 [v1, v2, v3, v4] sh M (mr92 S P) 34 L st c s) := (propext (mv_R_iff (i := .invokevirtual 182) (len := 3) (ax := [1, 44, 4, 0, 0, 0, 753, 501, 19, 111, 502]) (by decide +kernel))).trans (q_call1)
theorem e92_34 : mr92 S P 34 L st sh M c s = (q_isI (q_gv L 2) ∧ mr92 S P 35 L (q_gv L 2 :: st) sh M c s) := (propext (mv_R_iff (i := .iload_n 2) (len := 1) (ax := []) (by decide +kernel))).trans (q_ldI_eq (K := fun st => mr92 S P 35 L st sh M c s))
theorem e92_35 : mr92 S P 35 L st sh M c s = (mr92 S P 37 L (.int (nI 40) :: st) sh M c s) := propext (mv_R_iff (i := .bipush 40) (len := 2) (ax := []) (by decide +kernel))
theorem e92_37 {y : Int32} {x : Int32} : mr92 S P 37 L (.int y :: .int x :: st) sh M c s = (mr92 S P 38 L (.int (x + y) :: st) sh M c s) := propext (mv_R_iff (i := .iadd) (len := 1) (ax := []) (by decide +kernel))
theorem e92_38 {x : Int32} : mr92 S P 38 L [.int x] sh M c s = (mv_nr 0 x ∧ P (some (.int x)) sh M) := propext (mv_R_iff (i := .ireturn) (len := 1) (ax := [0]) (by decide +kernel))
-- 96: TurnedTablets.cut()I
def mk96 : mv_Cd := [
  (0, .aload_n 0, 1, []),
  (1, .invokevirtual 160, 3, [0, 53, 1, 4, 0, 0, 0, 679, 681, 32, 104, 682]),
  (4, .aload_n 0, 1, []),
  (5, .getfield 35, 3, [526, 0, 4, 3]),
  (8, .getfield 148, 3, [239, 1, 0, 2]),
  (11, .istore_n 1, 1, []),
  (12, .aload_n 0, 1, []),
  (13, .getfield 35, 3, [526, 0, 4, 3]),
  (16, .iconst 0, 1, []),
  (17, .putfield 148, 3, [239, 1, 0, 2, 0]),
  (20, .iload_n 1, 1, []),
  (21, .ireturn, 1, [0])]
def mr96 (S : Nat → mv_Sp) (P : mv_Post) : mv_Kt := mv_R mv_DF mk96 S (0, 0) P
theorem e96_0 : mr96 S P 0 L st sh M c s = (q_isA (q_gv L 0) ∧ mr96 S P 1 L (q_gv L 0 :: st) sh M c s) := (propext (mv_R_iff (i := .aload_n 0) (len := 1) (ax := []) (by decide +kernel))).trans (q_ldA_eq (K := fun st => mr96 S P 1 L st sh M c s))
theorem e96_1 {v1 : Value} : mr96 S P 1 L (v1 :: st) sh M c s = (mv_ss st ≤ 8 ∧ c ≤ 0 ∧ s ≤ 0 ∧ mv_isO sh (some v1) 4 ∧ mv_kal S 53 [v1] sh M (mr96 S P) 4 L st c s) := (propext (mv_R_iff (i := .invokevirtual 160) (len := 3) (ax := [0, 53, 1, 4, 0, 0, 0, 679, 681, 32, 104, 682]) (by decide +kernel))).trans (q_call0)
theorem e96_4 : mr96 S P 4 L st sh M c s = (q_isA (q_gv L 0) ∧ mr96 S P 5 L (q_gv L 0 :: st) sh M c s) := (propext (mv_R_iff (i := .aload_n 0) (len := 1) (ax := []) (by decide +kernel))).trans (q_ldA_eq (K := fun st => mr96 S P 5 L st sh M c s))
theorem e96_5 {a : Nat} : mr96 S P 5 L (.ref a :: st) sh M c s = (mv_kgf sh M a 4 3 (mr96 S P) 8 L st c s) := propext (mv_R_iff (i := .getfield 35) (len := 3) (ax := [526, 0, 4, 3]) (by decide +kernel))
theorem e96_8 {a : Nat} : mr96 S P 8 L (.ref a :: st) sh M c s = (mv_kgf sh M a 0 2 (mr96 S P) 11 L st c s) := propext (mv_R_iff (i := .getfield 148) (len := 3) (ax := [239, 1, 0, 2]) (by decide +kernel))
theorem e96_11 {x : Int32} : mr96 S P 11 L (.int x :: st) sh M c s = (q_hs L 1 ∧ mr96 S P 12 (L.set 1 (some (.int x))) st sh M c s) := (propext (mv_R_iff (i := .istore_n 1) (len := 1) (ax := []) (by decide +kernel))).trans (q_st_eq (K := fun L => mr96 S P 12 L st sh M c s))
theorem e96_12 : mr96 S P 12 L st sh M c s = (q_isA (q_gv L 0) ∧ mr96 S P 13 L (q_gv L 0 :: st) sh M c s) := (propext (mv_R_iff (i := .aload_n 0) (len := 1) (ax := []) (by decide +kernel))).trans (q_ldA_eq (K := fun st => mr96 S P 13 L st sh M c s))
theorem e96_13 {a : Nat} : mr96 S P 13 L (.ref a :: st) sh M c s = (mv_kgf sh M a 4 3 (mr96 S P) 16 L st c s) := propext (mv_R_iff (i := .getfield 35) (len := 3) (ax := [526, 0, 4, 3]) (by decide +kernel))
theorem e96_16 : mr96 S P 16 L st sh M c s = (mr96 S P 17 L (.int (nI 0) :: st) sh M c s) := propext (mv_R_iff (i := .iconst 0) (len := 1) (ax := []) (by decide +kernel))
theorem e96_17 {x : Int32} {a : Nat} : mr96 S P 17 L (.int x :: .ref a :: st) sh M c s = (True ∧ mv_kpf sh M a 0 2 x (mr96 S P) 20 L st c s) := propext (mv_R_iff (i := .putfield 148) (len := 3) (ax := [239, 1, 0, 2, 0]) (by decide +kernel))
theorem e96_20 : mr96 S P 20 L st sh M c s = (q_isI (q_gv L 1) ∧ mr96 S P 21 L (q_gv L 1 :: st) sh M c s) := (propext (mv_R_iff (i := .iload_n 1) (len := 1) (ax := []) (by decide +kernel))).trans (q_ldI_eq (K := fun st => mr96 S P 21 L st sh M c s))
theorem e96_21 {x : Int32} : mr96 S P 21 L [.int x] sh M c s = (mv_nr 0 x ∧ P (some (.int x)) sh M) := propext (mv_R_iff (i := .ireturn) (len := 1) (ax := [0]) (by decide +kernel))
-- 103: TurnedTablets.fewest(II)I
def mk103 : mv_Cd := [
  (0, .aload_n 0, 1, []),
  (1, .getfield 19, 3, [524, 0, 4, 1]),
  (4, .iload_n 1, 1, []),
  (5, .invokevirtual 208, 3, [1, 73, 2, 1, 0, 0, 795, 797, 44, 109, 798]),
  (8, .ifCond .eq 8, 3, [16]),
  (11, .iload_n 2, 1, []),
  (12, .iconst (-1), 1, []),
  (13, .if_icmp .ge 5, 3, [18]),
  (16, .iconst (-1), 1, []),
  (17, .ireturn, 1, [0]),
  (18, .aload_n 0, 1, []),
  (19, .getfield 56, 3, [535, 0, 4, 12]),
  (22, .aload_n 0, 1, []),
  (23, .getfield 19, 3, [524, 0, 4, 1]),
  (26, .aload_n 0, 1, []),
  (27, .getfield 35, 3, [526, 0, 4, 3]),
  (30, .invokevirtual 139, 3, [1, 66, 1, 0, 0, 0, 644, 646, 27, 111, 647]),
  (33, .iload_n 1, 1, []),
  (34, .invokevirtual 211, 3, [1, 99, 4, 3, 0, 0, 799, 801, 45, 112, 802]),
  (37, .istore_n 3, 1, []),
  (38, .iload_n 3, 1, []),
  (39, .ifCond .ge 6, 3, [45]),
  (42, .bipush (-4), 2, []),
  (44, .ireturn, 1, [0]),
  (45, .aload_n 0, 1, []),
  (46, .getfield 56, 3, [535, 0, 4, 12]),
  (49, .iload_n 3, 1, []),
  (50, .invokevirtual 214, 3, [1, 101, 2, 3, 0, 0, 827, 829, 51, 112, 830]),
  (53, .istore 4, 2, []),
  (55, .iload_n 2, 1, []),
  (56, .iconst (-1), 1, []),
  (57, .if_icmp .ne 6, 3, [63]),
  (60, .iload 4, 2, []),
  (62, .ireturn, 1, [0]),
  (63, .iload_n 2, 1, []),
  (64, .iload 4, 2, []),
  (66, .if_icmp .ge 20, 3, [86]),
  (69, .aload_n 0, 1, []),
  (70, .getfield 56, 3, [535, 0, 4, 12]),
  (73, .iload_n 3, 1, []),
  (74, .iload 4, 2, []),
  (76, .iconst 1, 1, []),
  (77, .isub, 1, []),
  (78, .iload_n 2, 1, []),
  (79, .isub, 1, []),
  (80, .invokevirtual 217, 3, [1, 102, 3, 3, 0, 0, 839, 841, 54, 112, 842]),
  (83, .goto 5, 3, [88]),
  (86, .bipush (-4), 2, []),
  (88, .ireturn, 1, [0])]
def mr103 (S : Nat → mv_Sp) (P : mv_Post) : mv_Kt := mv_R mv_DF mk103 S (0, 0) P
theorem e103_0 : mr103 S P 0 L st sh M c s = (q_isA (q_gv L 0) ∧ mr103 S P 1 L (q_gv L 0 :: st) sh M c s) := (propext (mv_R_iff (i := .aload_n 0) (len := 1) (ax := []) (by decide +kernel))).trans (q_ldA_eq (K := fun st => mr103 S P 1 L st sh M c s))
theorem e103_1 {a : Nat} : mr103 S P 1 L (.ref a :: st) sh M c s = (mv_kgf sh M a 4 1 (mr103 S P) 4 L st c s) := propext (mv_R_iff (i := .getfield 19) (len := 3) (ax := [524, 0, 4, 1]) (by decide +kernel))
theorem e103_4 : mr103 S P 4 L st sh M c s = (q_isI (q_gv L 1) ∧ mr103 S P 5 L (q_gv L 1 :: st) sh M c s) := (propext (mv_R_iff (i := .iload_n 1) (len := 1) (ax := []) (by decide +kernel))).trans (q_ldI_eq (K := fun st => mr103 S P 5 L st sh M c s))
theorem e103_5 {v2 : Value} {v1 : Value} : mr103 S P 5 L (v2 :: v1 :: st) sh M c s = (mv_ss st ≤ 8 ∧ c ≤ 0 ∧ s ≤ 0 ∧ mv_isO sh (some v1) 1 ∧ mv_kal S 73 [v1, v2] sh M (mr103 S P) 8 L st c s) := (propext (mv_R_iff (i := .invokevirtual 208) (len := 3) (ax := [1, 73, 2, 1, 0, 0, 795, 797, 44, 109, 798]) (by decide +kernel))).trans (q_call1)
theorem e103_8 {x : Int32} : mr103 S P 8 L (.int x :: st) sh M c s = (if x = nI 0 then mr103 S P 16 L st sh M c s else mr103 S P 11 L st sh M c s) := (propext (mv_R_iff (i := .ifCond .eq 8) (len := 3) (ax := [16]) (by decide +kernel))).trans (q_br)
theorem e103_11 : mr103 S P 11 L st sh M c s = (q_isI (q_gv L 2) ∧ mr103 S P 12 L (q_gv L 2 :: st) sh M c s) := (propext (mv_R_iff (i := .iload_n 2) (len := 1) (ax := []) (by decide +kernel))).trans (q_ldI_eq (K := fun st => mr103 S P 12 L st sh M c s))
theorem e103_12 : mr103 S P 12 L st sh M c s = (mr103 S P 13 L (.int (Int32.ofInt (-1)) :: st) sh M c s) := propext (mv_R_iff (i := .iconst (-1)) (len := 1) (ax := []) (by decide +kernel))
theorem e103_13 {y : Int32} {x : Int32} : mr103 S P 13 L (.int y :: .int x :: st) sh M c s = (if y ≤ x then mr103 S P 18 L st sh M c s else mr103 S P 16 L st sh M c s) := (propext (mv_R_iff (i := .if_icmp .ge 5) (len := 3) (ax := [18]) (by decide +kernel))).trans (q_br)
theorem e103_16 : mr103 S P 16 L st sh M c s = (mr103 S P 17 L (.int (Int32.ofInt (-1)) :: st) sh M c s) := propext (mv_R_iff (i := .iconst (-1)) (len := 1) (ax := []) (by decide +kernel))
theorem e103_17 {x : Int32} : mr103 S P 17 L [.int x] sh M c s = (mv_nr 0 x ∧ P (some (.int x)) sh M) := propext (mv_R_iff (i := .ireturn) (len := 1) (ax := [0]) (by decide +kernel))
theorem e103_18 : mr103 S P 18 L st sh M c s = (q_isA (q_gv L 0) ∧ mr103 S P 19 L (q_gv L 0 :: st) sh M c s) := (propext (mv_R_iff (i := .aload_n 0) (len := 1) (ax := []) (by decide +kernel))).trans (q_ldA_eq (K := fun st => mr103 S P 19 L st sh M c s))
theorem e103_19 {a : Nat} : mr103 S P 19 L (.ref a :: st) sh M c s = (mv_kgf sh M a 4 12 (mr103 S P) 22 L st c s) := propext (mv_R_iff (i := .getfield 56) (len := 3) (ax := [535, 0, 4, 12]) (by decide +kernel))
theorem e103_22 : mr103 S P 22 L st sh M c s = (q_isA (q_gv L 0) ∧ mr103 S P 23 L (q_gv L 0 :: st) sh M c s) := (propext (mv_R_iff (i := .aload_n 0) (len := 1) (ax := []) (by decide +kernel))).trans (q_ldA_eq (K := fun st => mr103 S P 23 L st sh M c s))
theorem e103_23 {a : Nat} : mr103 S P 23 L (.ref a :: st) sh M c s = (mv_kgf sh M a 4 1 (mr103 S P) 26 L st c s) := propext (mv_R_iff (i := .getfield 19) (len := 3) (ax := [524, 0, 4, 1]) (by decide +kernel))
theorem e103_26 : mr103 S P 26 L st sh M c s = (q_isA (q_gv L 0) ∧ mr103 S P 27 L (q_gv L 0 :: st) sh M c s) := (propext (mv_R_iff (i := .aload_n 0) (len := 1) (ax := []) (by decide +kernel))).trans (q_ldA_eq (K := fun st => mr103 S P 27 L st sh M c s))
theorem e103_27 {a : Nat} : mr103 S P 27 L (.ref a :: st) sh M c s = (mv_kgf sh M a 4 3 (mr103 S P) 30 L st c s) := propext (mv_R_iff (i := .getfield 35) (len := 3) (ax := [526, 0, 4, 3]) (by decide +kernel))
theorem e103_30 {v1 : Value} : mr103 S P 30 L (v1 :: st) sh M c s = (mv_ss st ≤ 8 ∧ c ≤ 0 ∧ s ≤ 0 ∧ mv_isO sh (some v1) 0 ∧ mv_kal S 66 [v1] sh M (mr103 S P) 33 L st c s) := (propext (mv_R_iff (i := .invokevirtual 139) (len := 3) (ax := [1, 66, 1, 0, 0, 0, 644, 646, 27, 111, 647]) (by decide +kernel))).trans (q_call1)
theorem e103_33 : mr103 S P 33 L st sh M c s = (q_isI (q_gv L 1) ∧ mr103 S P 34 L (q_gv L 1 :: st) sh M c s) := (propext (mv_R_iff (i := .iload_n 1) (len := 1) (ax := []) (by decide +kernel))).trans (q_ldI_eq (K := fun st => mr103 S P 34 L st sh M c s))
theorem e103_34 {v4 : Value} {v3 : Value} {v2 : Value} {v1 : Value} : mr103 S P 34 L (v4 :: v3 :: v2 :: v1 :: st) sh M c s = (mv_ss st ≤ 8 ∧ c ≤ 0 ∧ s ≤ 0 ∧ mv_isO sh (some v1) 3 ∧ mv_kal S 99 [v1, v2, v3, v4] sh M (mr103 S P) 37 L st c s) := (propext (mv_R_iff (i := .invokevirtual 211) (len := 3) (ax := [1, 99, 4, 3, 0, 0, 799, 801, 45, 112, 802]) (by decide +kernel))).trans (q_call1)
theorem e103_37 {x : Int32} : mr103 S P 37 L (.int x :: st) sh M c s = (q_hs L 3 ∧ mr103 S P 38 (L.set 3 (some (.int x))) st sh M c s) := (propext (mv_R_iff (i := .istore_n 3) (len := 1) (ax := []) (by decide +kernel))).trans (q_st_eq (K := fun L => mr103 S P 38 L st sh M c s))
theorem e103_38 : mr103 S P 38 L st sh M c s = (q_isI (q_gv L 3) ∧ mr103 S P 39 L (q_gv L 3 :: st) sh M c s) := (propext (mv_R_iff (i := .iload_n 3) (len := 1) (ax := []) (by decide +kernel))).trans (q_ldI_eq (K := fun st => mr103 S P 39 L st sh M c s))
theorem e103_39 {x : Int32} : mr103 S P 39 L (.int x :: st) sh M c s = (if nI 0 ≤ x then mr103 S P 45 L st sh M c s else mr103 S P 42 L st sh M c s) := (propext (mv_R_iff (i := .ifCond .ge 6) (len := 3) (ax := [45]) (by decide +kernel))).trans (q_br)
theorem e103_42 : mr103 S P 42 L st sh M c s = (mr103 S P 44 L (.int (Int32.ofInt (-4)) :: st) sh M c s) := (propext (mv_R_iff (i := .bipush (-4)) (len := 2) (ax := []) (by decide +kernel))).trans (congrArg (fun z => mr103 S P 44 L (.int z :: st) sh M c s) (by decide : (Int8.ofInt (-4)).toInt32 = Int32.ofInt (-4)))
theorem e103_44 {x : Int32} : mr103 S P 44 L [.int x] sh M c s = (mv_nr 0 x ∧ P (some (.int x)) sh M) := propext (mv_R_iff (i := .ireturn) (len := 1) (ax := [0]) (by decide +kernel))
theorem e103_45 : mr103 S P 45 L st sh M c s = (q_isA (q_gv L 0) ∧ mr103 S P 46 L (q_gv L 0 :: st) sh M c s) := (propext (mv_R_iff (i := .aload_n 0) (len := 1) (ax := []) (by decide +kernel))).trans (q_ldA_eq (K := fun st => mr103 S P 46 L st sh M c s))
theorem e103_46 {a : Nat} : mr103 S P 46 L (.ref a :: st) sh M c s = (mv_kgf sh M a 4 12 (mr103 S P) 49 L st c s) := propext (mv_R_iff (i := .getfield 56) (len := 3) (ax := [535, 0, 4, 12]) (by decide +kernel))
theorem e103_49 : mr103 S P 49 L st sh M c s = (q_isI (q_gv L 3) ∧ mr103 S P 50 L (q_gv L 3 :: st) sh M c s) := (propext (mv_R_iff (i := .iload_n 3) (len := 1) (ax := []) (by decide +kernel))).trans (q_ldI_eq (K := fun st => mr103 S P 50 L st sh M c s))
theorem e103_50 {v2 : Value} {v1 : Value} : mr103 S P 50 L (v2 :: v1 :: st) sh M c s = (mv_ss st ≤ 8 ∧ c ≤ 0 ∧ s ≤ 0 ∧ mv_isO sh (some v1) 3 ∧ mv_kal S 101 [v1, v2] sh M (mr103 S P) 53 L st c s) := (propext (mv_R_iff (i := .invokevirtual 214) (len := 3) (ax := [1, 101, 2, 3, 0, 0, 827, 829, 51, 112, 830]) (by decide +kernel))).trans (q_call1)
theorem e103_53 {x : Int32} : mr103 S P 53 L (.int x :: st) sh M c s = (q_hs L 4 ∧ mr103 S P 55 (L.set 4 (some (.int x))) st sh M c s) := (propext (mv_R_iff (i := .istore 4) (len := 2) (ax := []) (by decide +kernel))).trans (q_st_eq (K := fun L => mr103 S P 55 L st sh M c s))
theorem e103_55 : mr103 S P 55 L st sh M c s = (q_isI (q_gv L 2) ∧ mr103 S P 56 L (q_gv L 2 :: st) sh M c s) := (propext (mv_R_iff (i := .iload_n 2) (len := 1) (ax := []) (by decide +kernel))).trans (q_ldI_eq (K := fun st => mr103 S P 56 L st sh M c s))
theorem e103_56 : mr103 S P 56 L st sh M c s = (mr103 S P 57 L (.int (Int32.ofInt (-1)) :: st) sh M c s) := propext (mv_R_iff (i := .iconst (-1)) (len := 1) (ax := []) (by decide +kernel))
theorem e103_57 {y : Int32} {x : Int32} : mr103 S P 57 L (.int y :: .int x :: st) sh M c s = (if x = y then mr103 S P 60 L st sh M c s else mr103 S P 63 L st sh M c s) := (propext (mv_R_iff (i := .if_icmp .ne 6) (len := 3) (ax := [63]) (by decide +kernel))).trans (q_br')
theorem e103_60 : mr103 S P 60 L st sh M c s = (q_isI (q_gv L 4) ∧ mr103 S P 62 L (q_gv L 4 :: st) sh M c s) := (propext (mv_R_iff (i := .iload 4) (len := 2) (ax := []) (by decide +kernel))).trans (q_ldI_eq (K := fun st => mr103 S P 62 L st sh M c s))
theorem e103_62 {x : Int32} : mr103 S P 62 L [.int x] sh M c s = (mv_nr 0 x ∧ P (some (.int x)) sh M) := propext (mv_R_iff (i := .ireturn) (len := 1) (ax := [0]) (by decide +kernel))
theorem e103_63 : mr103 S P 63 L st sh M c s = (q_isI (q_gv L 2) ∧ mr103 S P 64 L (q_gv L 2 :: st) sh M c s) := (propext (mv_R_iff (i := .iload_n 2) (len := 1) (ax := []) (by decide +kernel))).trans (q_ldI_eq (K := fun st => mr103 S P 64 L st sh M c s))
theorem e103_64 : mr103 S P 64 L st sh M c s = (q_isI (q_gv L 4) ∧ mr103 S P 66 L (q_gv L 4 :: st) sh M c s) := (propext (mv_R_iff (i := .iload 4) (len := 2) (ax := []) (by decide +kernel))).trans (q_ldI_eq (K := fun st => mr103 S P 66 L st sh M c s))
theorem e103_66 {y : Int32} {x : Int32} : mr103 S P 66 L (.int y :: .int x :: st) sh M c s = (if y ≤ x then mr103 S P 86 L st sh M c s else mr103 S P 69 L st sh M c s) := (propext (mv_R_iff (i := .if_icmp .ge 20) (len := 3) (ax := [86]) (by decide +kernel))).trans (q_br)
theorem e103_69 : mr103 S P 69 L st sh M c s = (q_isA (q_gv L 0) ∧ mr103 S P 70 L (q_gv L 0 :: st) sh M c s) := (propext (mv_R_iff (i := .aload_n 0) (len := 1) (ax := []) (by decide +kernel))).trans (q_ldA_eq (K := fun st => mr103 S P 70 L st sh M c s))
theorem e103_70 {a : Nat} : mr103 S P 70 L (.ref a :: st) sh M c s = (mv_kgf sh M a 4 12 (mr103 S P) 73 L st c s) := propext (mv_R_iff (i := .getfield 56) (len := 3) (ax := [535, 0, 4, 12]) (by decide +kernel))
theorem e103_73 : mr103 S P 73 L st sh M c s = (q_isI (q_gv L 3) ∧ mr103 S P 74 L (q_gv L 3 :: st) sh M c s) := (propext (mv_R_iff (i := .iload_n 3) (len := 1) (ax := []) (by decide +kernel))).trans (q_ldI_eq (K := fun st => mr103 S P 74 L st sh M c s))
theorem e103_74 : mr103 S P 74 L st sh M c s = (q_isI (q_gv L 4) ∧ mr103 S P 76 L (q_gv L 4 :: st) sh M c s) := (propext (mv_R_iff (i := .iload 4) (len := 2) (ax := []) (by decide +kernel))).trans (q_ldI_eq (K := fun st => mr103 S P 76 L st sh M c s))
theorem e103_76 : mr103 S P 76 L st sh M c s = (mr103 S P 77 L (.int (nI 1) :: st) sh M c s) := propext (mv_R_iff (i := .iconst 1) (len := 1) (ax := []) (by decide +kernel))
theorem e103_77 {y : Int32} {x : Int32} : mr103 S P 77 L (.int y :: .int x :: st) sh M c s = (mr103 S P 78 L (.int (x - y) :: st) sh M c s) := propext (mv_R_iff (i := .isub) (len := 1) (ax := []) (by decide +kernel))
theorem e103_78 : mr103 S P 78 L st sh M c s = (q_isI (q_gv L 2) ∧ mr103 S P 79 L (q_gv L 2 :: st) sh M c s) := (propext (mv_R_iff (i := .iload_n 2) (len := 1) (ax := []) (by decide +kernel))).trans (q_ldI_eq (K := fun st => mr103 S P 79 L st sh M c s))
theorem e103_79 {y : Int32} {x : Int32} : mr103 S P 79 L (.int y :: .int x :: st) sh M c s = (mr103 S P 80 L (.int (x - y) :: st) sh M c s) := propext (mv_R_iff (i := .isub) (len := 1) (ax := []) (by decide +kernel))
theorem e103_80 {v3 : Value} {v2 : Value} {v1 : Value} : mr103 S P 80 L (v3 :: v2 :: v1 :: st) sh M c s = (mv_ss st ≤ 8 ∧ c ≤ 0 ∧ s ≤ 0 ∧ mv_isO sh (some v1) 3 ∧ mv_kal S 102 [v1, v2, v3] sh M (mr103 S P) 83 L st c s) := (propext (mv_R_iff (i := .invokevirtual 217) (len := 3) (ax := [1, 102, 3, 3, 0, 0, 839, 841, 54, 112, 842]) (by decide +kernel))).trans (q_call1)
theorem e103_83 : mr103 S P 83 L st sh M c s = (mr103 S P 88 L st sh M c s) := propext (mv_R_iff (i := .goto 5) (len := 3) (ax := [88]) (by decide +kernel))
theorem e103_86 : mr103 S P 86 L st sh M c s = (mr103 S P 88 L (.int (Int32.ofInt (-4)) :: st) sh M c s) := (propext (mv_R_iff (i := .bipush (-4)) (len := 2) (ax := []) (by decide +kernel))).trans (congrArg (fun z => mr103 S P 88 L (.int z :: st) sh M c s) (by decide : (Int8.ofInt (-4)).toInt32 = Int32.ofInt (-4)))
theorem e103_88 {x : Int32} : mr103 S P 88 L [.int x] sh M c s = (mv_nr 0 x ∧ P (some (.int x)) sh M) := propext (mv_R_iff (i := .ireturn) (len := 1) (ax := [0]) (by decide +kernel))
-- 104: TurnedTablets.flip(I)I
def mk104 : mv_Cd := [
  (0, .aload_n 0, 1, []),
  (1, .iload_n 1, 1, []),
  (2, .invokevirtual 109, 3, [0, 91, 2, 4, 0, 0, 0, 598, 600, 20, 104, 601]),
  (5, .ifCond .ne 5, 3, [10]),
  (8, .iconst (-1), 1, []),
  (9, .ireturn, 1, [0]),
  (10, .aload_n 0, 1, []),
  (11, .invokevirtual 160, 3, [0, 53, 1, 4, 0, 0, 0, 679, 681, 32, 104, 682]),
  (14, .aload_n 0, 1, []),
  (15, .getfield 35, 3, [526, 0, 4, 3]),
  (18, .iload_n 1, 1, []),
  (19, .iconst 3, 1, []),
  (20, .iconst 1, 1, []),
  (21, .aload_n 0, 1, []),
  (22, .getfield 35, 3, [526, 0, 4, 3]),
  (25, .iload_n 1, 1, []),
  (26, .iconst 3, 1, []),
  (27, .invokevirtual 117, 3, [1, 61, 3, 0, 0, 0, 606, 608, 22, 111, 609]),
  (30, .isub, 1, []),
  (31, .invokevirtual 182, 3, [1, 44, 4, 0, 0, 0, 753, 501, 19, 111, 502]),
  (34, .aload_n 0, 1, []),
  (35, .getfield 35, 3, [526, 0, 4, 3]),
  (38, .iload_n 1, 1, []),
  (39, .iconst 3, 1, []),
  (40, .invokevirtual 117, 3, [1, 61, 3, 0, 0, 0, 606, 608, 22, 111, 609]),
  (43, .ireturn, 1, [0])]
def mr104 (S : Nat → mv_Sp) (P : mv_Post) : mv_Kt := mv_R mv_DF mk104 S (0, 0) P
theorem e104_0 : mr104 S P 0 L st sh M c s = (q_isA (q_gv L 0) ∧ mr104 S P 1 L (q_gv L 0 :: st) sh M c s) := (propext (mv_R_iff (i := .aload_n 0) (len := 1) (ax := []) (by decide +kernel))).trans (q_ldA_eq (K := fun st => mr104 S P 1 L st sh M c s))
theorem e104_1 : mr104 S P 1 L st sh M c s = (q_isI (q_gv L 1) ∧ mr104 S P 2 L (q_gv L 1 :: st) sh M c s) := (propext (mv_R_iff (i := .iload_n 1) (len := 1) (ax := []) (by decide +kernel))).trans (q_ldI_eq (K := fun st => mr104 S P 2 L st sh M c s))
theorem e104_2 {v2 : Value} {v1 : Value} : mr104 S P 2 L (v2 :: v1 :: st) sh M c s = (mv_ss st ≤ 8 ∧ c ≤ 0 ∧ s ≤ 0 ∧ mv_isO sh (some v1) 4 ∧ mv_kal S 91 [v1, v2] sh M (mr104 S P) 5 L st c s) := (propext (mv_R_iff (i := .invokevirtual 109) (len := 3) (ax := [0, 91, 2, 4, 0, 0, 0, 598, 600, 20, 104, 601]) (by decide +kernel))).trans (q_call0)
theorem e104_5 {x : Int32} : mr104 S P 5 L (.int x :: st) sh M c s = (if x = nI 0 then mr104 S P 8 L st sh M c s else mr104 S P 10 L st sh M c s) := (propext (mv_R_iff (i := .ifCond .ne 5) (len := 3) (ax := [10]) (by decide +kernel))).trans (q_br')
theorem e104_8 : mr104 S P 8 L st sh M c s = (mr104 S P 9 L (.int (Int32.ofInt (-1)) :: st) sh M c s) := propext (mv_R_iff (i := .iconst (-1)) (len := 1) (ax := []) (by decide +kernel))
theorem e104_9 {x : Int32} : mr104 S P 9 L [.int x] sh M c s = (mv_nr 0 x ∧ P (some (.int x)) sh M) := propext (mv_R_iff (i := .ireturn) (len := 1) (ax := [0]) (by decide +kernel))
theorem e104_10 : mr104 S P 10 L st sh M c s = (q_isA (q_gv L 0) ∧ mr104 S P 11 L (q_gv L 0 :: st) sh M c s) := (propext (mv_R_iff (i := .aload_n 0) (len := 1) (ax := []) (by decide +kernel))).trans (q_ldA_eq (K := fun st => mr104 S P 11 L st sh M c s))
theorem e104_11 {v1 : Value} : mr104 S P 11 L (v1 :: st) sh M c s = (mv_ss st ≤ 8 ∧ c ≤ 0 ∧ s ≤ 0 ∧ mv_isO sh (some v1) 4 ∧ mv_kal S 53 [v1] sh M (mr104 S P) 14 L st c s) := (propext (mv_R_iff (i := .invokevirtual 160) (len := 3) (ax := [0, 53, 1, 4, 0, 0, 0, 679, 681, 32, 104, 682]) (by decide +kernel))).trans (q_call0)
theorem e104_14 : mr104 S P 14 L st sh M c s = (q_isA (q_gv L 0) ∧ mr104 S P 15 L (q_gv L 0 :: st) sh M c s) := (propext (mv_R_iff (i := .aload_n 0) (len := 1) (ax := []) (by decide +kernel))).trans (q_ldA_eq (K := fun st => mr104 S P 15 L st sh M c s))
theorem e104_15 {a : Nat} : mr104 S P 15 L (.ref a :: st) sh M c s = (mv_kgf sh M a 4 3 (mr104 S P) 18 L st c s) := propext (mv_R_iff (i := .getfield 35) (len := 3) (ax := [526, 0, 4, 3]) (by decide +kernel))
theorem e104_18 : mr104 S P 18 L st sh M c s = (q_isI (q_gv L 1) ∧ mr104 S P 19 L (q_gv L 1 :: st) sh M c s) := (propext (mv_R_iff (i := .iload_n 1) (len := 1) (ax := []) (by decide +kernel))).trans (q_ldI_eq (K := fun st => mr104 S P 19 L st sh M c s))
theorem e104_19 : mr104 S P 19 L st sh M c s = (mr104 S P 20 L (.int (nI 3) :: st) sh M c s) := propext (mv_R_iff (i := .iconst 3) (len := 1) (ax := []) (by decide +kernel))
theorem e104_20 : mr104 S P 20 L st sh M c s = (mr104 S P 21 L (.int (nI 1) :: st) sh M c s) := propext (mv_R_iff (i := .iconst 1) (len := 1) (ax := []) (by decide +kernel))
theorem e104_21 : mr104 S P 21 L st sh M c s = (q_isA (q_gv L 0) ∧ mr104 S P 22 L (q_gv L 0 :: st) sh M c s) := (propext (mv_R_iff (i := .aload_n 0) (len := 1) (ax := []) (by decide +kernel))).trans (q_ldA_eq (K := fun st => mr104 S P 22 L st sh M c s))
theorem e104_22 {a : Nat} : mr104 S P 22 L (.ref a :: st) sh M c s = (mv_kgf sh M a 4 3 (mr104 S P) 25 L st c s) := propext (mv_R_iff (i := .getfield 35) (len := 3) (ax := [526, 0, 4, 3]) (by decide +kernel))
theorem e104_25 : mr104 S P 25 L st sh M c s = (q_isI (q_gv L 1) ∧ mr104 S P 26 L (q_gv L 1 :: st) sh M c s) := (propext (mv_R_iff (i := .iload_n 1) (len := 1) (ax := []) (by decide +kernel))).trans (q_ldI_eq (K := fun st => mr104 S P 26 L st sh M c s))
theorem e104_26 : mr104 S P 26 L st sh M c s = (mr104 S P 27 L (.int (nI 3) :: st) sh M c s) := propext (mv_R_iff (i := .iconst 3) (len := 1) (ax := []) (by decide +kernel))
theorem e104_27 {v3 : Value} {v2 : Value} {v1 : Value} : mr104 S P 27 L (v3 :: v2 :: v1 :: st) sh M c s = (mv_ss st ≤ 8 ∧ c ≤ 0 ∧ s ≤ 0 ∧ mv_isO sh (some v1) 0 ∧ mv_kal S 61 [v1, v2, v3] sh M (mr104 S P) 30 L st c s) := (propext (mv_R_iff (i := .invokevirtual 117) (len := 3) (ax := [1, 61, 3, 0, 0, 0, 606, 608, 22, 111, 609]) (by decide +kernel))).trans (q_call1)
theorem e104_30 {y : Int32} {x : Int32} : mr104 S P 30 L (.int y :: .int x :: st) sh M c s = (mr104 S P 31 L (.int (x - y) :: st) sh M c s) := propext (mv_R_iff (i := .isub) (len := 1) (ax := []) (by decide +kernel))
theorem e104_31 {v4 : Value} {v3 : Value} {v2 : Value} {v1 : Value} : mr104 S P 31 L (v4 :: v3 :: v2 :: v1 :: st) sh M c s = (mv_ss st ≤ 8 ∧ c ≤ 0 ∧ s ≤ 0 ∧ mv_isO sh (some v1) 0 ∧ mv_kal S 44 [v1, v2, v3, v4] sh M (mr104 S P) 34 L st c s) := (propext (mv_R_iff (i := .invokevirtual 182) (len := 3) (ax := [1, 44, 4, 0, 0, 0, 753, 501, 19, 111, 502]) (by decide +kernel))).trans (q_call1)
theorem e104_34 : mr104 S P 34 L st sh M c s = (q_isA (q_gv L 0) ∧ mr104 S P 35 L (q_gv L 0 :: st) sh M c s) := (propext (mv_R_iff (i := .aload_n 0) (len := 1) (ax := []) (by decide +kernel))).trans (q_ldA_eq (K := fun st => mr104 S P 35 L st sh M c s))
theorem e104_35 {a : Nat} : mr104 S P 35 L (.ref a :: st) sh M c s = (mv_kgf sh M a 4 3 (mr104 S P) 38 L st c s) := propext (mv_R_iff (i := .getfield 35) (len := 3) (ax := [526, 0, 4, 3]) (by decide +kernel))
theorem e104_38 : mr104 S P 38 L st sh M c s = (q_isI (q_gv L 1) ∧ mr104 S P 39 L (q_gv L 1 :: st) sh M c s) := (propext (mv_R_iff (i := .iload_n 1) (len := 1) (ax := []) (by decide +kernel))).trans (q_ldI_eq (K := fun st => mr104 S P 39 L st sh M c s))
theorem e104_39 : mr104 S P 39 L st sh M c s = (mr104 S P 40 L (.int (nI 3) :: st) sh M c s) := propext (mv_R_iff (i := .iconst 3) (len := 1) (ax := []) (by decide +kernel))
theorem e104_40 {v3 : Value} {v2 : Value} {v1 : Value} : mr104 S P 40 L (v3 :: v2 :: v1 :: st) sh M c s = (mv_ss st ≤ 8 ∧ c ≤ 0 ∧ s ≤ 0 ∧ mv_isO sh (some v1) 0 ∧ mv_kal S 61 [v1, v2, v3] sh M (mr104 S P) 43 L st c s) := (propext (mv_R_iff (i := .invokevirtual 117) (len := 3) (ax := [1, 61, 3, 0, 0, 0, 606, 608, 22, 111, 609]) (by decide +kernel))).trans (q_call1)
theorem e104_43 {x : Int32} : mr104 S P 43 L [.int x] sh M c s = (mv_nr 0 x ∧ P (some (.int x)) sh M) := propext (mv_R_iff (i := .ireturn) (len := 1) (ax := [0]) (by decide +kernel))
-- 110: TurnedTablets.keep()I
def mk110 : mv_Cd := [
  (0, .aload_n 0, 1, []),
  (1, .getfield 106, 3, [532, 0, 4, 9]),
  (4, .iconst 2, 1, []),
  (5, .if_icmp .lt 6, 3, [11]),
  (8, .bipush (-3), 2, []),
  (10, .ireturn, 1, [0]),
  (11, .aload_n 0, 1, []),
  (12, .getfield 46, 3, [531, 0, 4, 8]),
  (15, .aload_n 0, 1, []),
  (16, .getfield 106, 3, [532, 0, 4, 9]),
  (19, .aaload, 1, []),
  (20, .aload_n 0, 1, []),
  (21, .getfield 35, 3, [526, 0, 4, 3]),
  (24, .invokevirtual 189, 3, [1, 52, 2, 0, 0, 0, 683, 685, 33, 111, 686]),
  (27, .aload_n 0, 1, []),
  (28, .dup, 1, []),
  (29, .getfield 106, 3, [532, 0, 4, 9]),
  (32, .iconst 1, 1, []),
  (33, .iadd, 1, []),
  (34, .putfield 106, 3, [532, 0, 4, 9, 0]),
  (37, .aload_n 0, 1, []),
  (38, .getfield 106, 3, [532, 0, 4, 9]),
  (41, .ireturn, 1, [0])]
def mr110 (S : Nat → mv_Sp) (P : mv_Post) : mv_Kt := mv_R mv_DF mk110 S (0, 0) P
theorem e110_0 : mr110 S P 0 L st sh M c s = (q_isA (q_gv L 0) ∧ mr110 S P 1 L (q_gv L 0 :: st) sh M c s) := (propext (mv_R_iff (i := .aload_n 0) (len := 1) (ax := []) (by decide +kernel))).trans (q_ldA_eq (K := fun st => mr110 S P 1 L st sh M c s))
theorem e110_1 {a : Nat} : mr110 S P 1 L (.ref a :: st) sh M c s = (mv_kgf sh M a 4 9 (mr110 S P) 4 L st c s) := propext (mv_R_iff (i := .getfield 106) (len := 3) (ax := [532, 0, 4, 9]) (by decide +kernel))
theorem e110_4 : mr110 S P 4 L st sh M c s = (mr110 S P 5 L (.int (nI 2) :: st) sh M c s) := propext (mv_R_iff (i := .iconst 2) (len := 1) (ax := []) (by decide +kernel))
theorem e110_5 {y : Int32} {x : Int32} : mr110 S P 5 L (.int y :: .int x :: st) sh M c s = (if x < y then mr110 S P 11 L st sh M c s else mr110 S P 8 L st sh M c s) := (propext (mv_R_iff (i := .if_icmp .lt 6) (len := 3) (ax := [11]) (by decide +kernel))).trans (q_br)
theorem e110_8 : mr110 S P 8 L st sh M c s = (mr110 S P 10 L (.int (Int32.ofInt (-3)) :: st) sh M c s) := (propext (mv_R_iff (i := .bipush (-3)) (len := 2) (ax := []) (by decide +kernel))).trans (congrArg (fun z => mr110 S P 10 L (.int z :: st) sh M c s) (by decide : (Int8.ofInt (-3)).toInt32 = Int32.ofInt (-3)))
theorem e110_10 {x : Int32} : mr110 S P 10 L [.int x] sh M c s = (mv_nr 0 x ∧ P (some (.int x)) sh M) := propext (mv_R_iff (i := .ireturn) (len := 1) (ax := [0]) (by decide +kernel))
theorem e110_11 : mr110 S P 11 L st sh M c s = (q_isA (q_gv L 0) ∧ mr110 S P 12 L (q_gv L 0 :: st) sh M c s) := (propext (mv_R_iff (i := .aload_n 0) (len := 1) (ax := []) (by decide +kernel))).trans (q_ldA_eq (K := fun st => mr110 S P 12 L st sh M c s))
theorem e110_12 {a : Nat} : mr110 S P 12 L (.ref a :: st) sh M c s = (mv_kgf sh M a 4 8 (mr110 S P) 15 L st c s) := propext (mv_R_iff (i := .getfield 46) (len := 3) (ax := [531, 0, 4, 8]) (by decide +kernel))
theorem e110_15 : mr110 S P 15 L st sh M c s = (q_isA (q_gv L 0) ∧ mr110 S P 16 L (q_gv L 0 :: st) sh M c s) := (propext (mv_R_iff (i := .aload_n 0) (len := 1) (ax := []) (by decide +kernel))).trans (q_ldA_eq (K := fun st => mr110 S P 16 L st sh M c s))
theorem e110_16 {a : Nat} : mr110 S P 16 L (.ref a :: st) sh M c s = (mv_kgf sh M a 4 9 (mr110 S P) 19 L st c s) := propext (mv_R_iff (i := .getfield 106) (len := 3) (ax := [532, 0, 4, 9]) (by decide +kernel))
theorem e110_19 {i : Int32} {a : Nat} : mr110 S P 19 L (.int i :: .ref a :: st) sh M c s = (mv_kal0 sh M a i (mr110 S P) 20 L st c s) := propext (mv_R_iff (i := .aaload) (len := 1) (ax := []) (by decide +kernel))
theorem e110_20 : mr110 S P 20 L st sh M c s = (q_isA (q_gv L 0) ∧ mr110 S P 21 L (q_gv L 0 :: st) sh M c s) := (propext (mv_R_iff (i := .aload_n 0) (len := 1) (ax := []) (by decide +kernel))).trans (q_ldA_eq (K := fun st => mr110 S P 21 L st sh M c s))
theorem e110_21 {a : Nat} : mr110 S P 21 L (.ref a :: st) sh M c s = (mv_kgf sh M a 4 3 (mr110 S P) 24 L st c s) := propext (mv_R_iff (i := .getfield 35) (len := 3) (ax := [526, 0, 4, 3]) (by decide +kernel))
theorem e110_24 {v2 : Value} {v1 : Value} : mr110 S P 24 L (v2 :: v1 :: st) sh M c s = (mv_ss st ≤ 8 ∧ c ≤ 0 ∧ s ≤ 0 ∧ mv_isO sh (some v1) 0 ∧ mv_kal S 52 [v1, v2] sh M (mr110 S P) 27 L st c s) := (propext (mv_R_iff (i := .invokevirtual 189) (len := 3) (ax := [1, 52, 2, 0, 0, 0, 683, 685, 33, 111, 686]) (by decide +kernel))).trans (q_call1)
theorem e110_27 : mr110 S P 27 L st sh M c s = (q_isA (q_gv L 0) ∧ mr110 S P 28 L (q_gv L 0 :: st) sh M c s) := (propext (mv_R_iff (i := .aload_n 0) (len := 1) (ax := []) (by decide +kernel))).trans (q_ldA_eq (K := fun st => mr110 S P 28 L st sh M c s))
theorem e110_28 {x : Int32} : mr110 S P 28 L (.int x :: st) sh M c s = (mr110 S P 29 L (.int x :: .int x :: st) sh M c s) := propext (mv_R_iff (i := .dup) (len := 1) (ax := []) (by decide +kernel))
theorem e110_28r {x : Nat} : mr110 S P 28 L (.ref x :: st) sh M c s = (mr110 S P 29 L (.ref x :: .ref x :: st) sh M c s) := propext (mv_R_iff (i := .dup) (len := 1) (ax := []) (by decide +kernel))
theorem e110_29 {a : Nat} : mr110 S P 29 L (.ref a :: st) sh M c s = (mv_kgf sh M a 4 9 (mr110 S P) 32 L st c s) := propext (mv_R_iff (i := .getfield 106) (len := 3) (ax := [532, 0, 4, 9]) (by decide +kernel))
theorem e110_32 : mr110 S P 32 L st sh M c s = (mr110 S P 33 L (.int (nI 1) :: st) sh M c s) := propext (mv_R_iff (i := .iconst 1) (len := 1) (ax := []) (by decide +kernel))
theorem e110_33 {y : Int32} {x : Int32} : mr110 S P 33 L (.int y :: .int x :: st) sh M c s = (mr110 S P 34 L (.int (x + y) :: st) sh M c s) := propext (mv_R_iff (i := .iadd) (len := 1) (ax := []) (by decide +kernel))
theorem e110_34 {x : Int32} {a : Nat} : mr110 S P 34 L (.int x :: .ref a :: st) sh M c s = (True ∧ mv_kpf sh M a 4 9 x (mr110 S P) 37 L st c s) := propext (mv_R_iff (i := .putfield 106) (len := 3) (ax := [532, 0, 4, 9, 0]) (by decide +kernel))
theorem e110_37 : mr110 S P 37 L st sh M c s = (q_isA (q_gv L 0) ∧ mr110 S P 38 L (q_gv L 0 :: st) sh M c s) := (propext (mv_R_iff (i := .aload_n 0) (len := 1) (ax := []) (by decide +kernel))).trans (q_ldA_eq (K := fun st => mr110 S P 38 L st sh M c s))
theorem e110_38 {a : Nat} : mr110 S P 38 L (.ref a :: st) sh M c s = (mv_kgf sh M a 4 9 (mr110 S P) 41 L st c s) := propext (mv_R_iff (i := .getfield 106) (len := 3) (ax := [532, 0, 4, 9]) (by decide +kernel))
theorem e110_41 {x : Int32} : mr110 S P 41 L [.int x] sh M c s = (mv_nr 0 x ∧ P (some (.int x)) sh M) := propext (mv_R_iff (i := .ireturn) (len := 1) (ax := [0]) (by decide +kernel))
-- 120: TurnedTablets.round()I
def mk120 : mv_Cd := [
  (0, .aload_n 0, 1, []),
  (1, .getfield 19, 3, [524, 0, 4, 1]),
  (4, .getfield 133, 3, [178, 1, 1, 2]),
  (7, .ifCond .ne 6, 3, [13]),
  (10, .bipush (-4), 2, []),
  (12, .ireturn, 1, [0]),
  (13, .iconst 0, 1, []),
  (14, .istore_n 1, 1, []),
  (15, .iconst 0, 1, []),
  (16, .istore_n 2, 1, []),
  (17, .iload_n 2, 1, []),
  (18, .aload_n 0, 1, []),
  (19, .getfield 19, 3, [524, 0, 4, 1]),
  (22, .getfield 133, 3, [178, 1, 1, 2]),
  (25, .if_icmp .ge 37, 3, [62]),
  (28, .iload_n 1, 1, []),
  (29, .aload_n 0, 1, []),
  (30, .getfield 19, 3, [524, 0, 4, 1]),
  (33, .aload_n 0, 1, []),
  (34, .getfield 19, 3, [524, 0, 4, 1]),
  (37, .iload_n 2, 1, []),
  (38, .invokevirtual 167, 3, [1, 55, 2, 1, 0, 0, 726, 728, 40, 109, 729]),
  (41, .aload_n 0, 1, []),
  (42, .getfield 19, 3, [524, 0, 4, 1]),
  (45, .iload_n 2, 1, []),
  (46, .invokevirtual 170, 3, [1, 56, 2, 1, 0, 0, 731, 733, 41, 109, 734]),
  (49, .invokevirtual 192, 3, [1, 80, 3, 1, 0, 0, 770, 772, 43, 109, 773]),
  (52, .invokestatic 195, 3, [3, 51, 2, 0, 0, 0, 0, 777, 778, 104, 779]),
  (55, .istore_n 1, 1, []),
  (56, .iinc 2 1, 3, []),
  (59, .goto (-42), 3, [17]),
  (62, .iload_n 1, 1, []),
  (63, .ifCond .ne 5, 3, [68]),
  (66, .iconst 1, 1, []),
  (67, .ireturn, 1, [0]),
  (68, .iload_n 1, 1, []),
  (69, .iload_n 1, 1, []),
  (70, .invokestatic 195, 3, [3, 51, 2, 0, 0, 0, 0, 777, 778, 104, 779]),
  (73, .ifCond .ne 7, 3, [80]),
  (76, .iconst 2, 1, []),
  (77, .goto 4, 3, [81]),
  (80, .iconst 4, 1, []),
  (81, .ireturn, 1, [0])]
def mr120 (S : Nat → mv_Sp) (P : mv_Post) : mv_Kt := mv_R mv_DF mk120 S (0, 0) P
theorem e120_0 : mr120 S P 0 L st sh M c s = (q_isA (q_gv L 0) ∧ mr120 S P 1 L (q_gv L 0 :: st) sh M c s) := (propext (mv_R_iff (i := .aload_n 0) (len := 1) (ax := []) (by decide +kernel))).trans (q_ldA_eq (K := fun st => mr120 S P 1 L st sh M c s))
theorem e120_1 {a : Nat} : mr120 S P 1 L (.ref a :: st) sh M c s = (mv_kgf sh M a 4 1 (mr120 S P) 4 L st c s) := propext (mv_R_iff (i := .getfield 19) (len := 3) (ax := [524, 0, 4, 1]) (by decide +kernel))
theorem e120_4 {a : Nat} : mr120 S P 4 L (.ref a :: st) sh M c s = (mv_kgf sh M a 1 2 (mr120 S P) 7 L st c s) := propext (mv_R_iff (i := .getfield 133) (len := 3) (ax := [178, 1, 1, 2]) (by decide +kernel))
theorem e120_7 {x : Int32} : mr120 S P 7 L (.int x :: st) sh M c s = (if x = nI 0 then mr120 S P 10 L st sh M c s else mr120 S P 13 L st sh M c s) := (propext (mv_R_iff (i := .ifCond .ne 6) (len := 3) (ax := [13]) (by decide +kernel))).trans (q_br')
theorem e120_10 : mr120 S P 10 L st sh M c s = (mr120 S P 12 L (.int (Int32.ofInt (-4)) :: st) sh M c s) := (propext (mv_R_iff (i := .bipush (-4)) (len := 2) (ax := []) (by decide +kernel))).trans (congrArg (fun z => mr120 S P 12 L (.int z :: st) sh M c s) (by decide : (Int8.ofInt (-4)).toInt32 = Int32.ofInt (-4)))
theorem e120_12 {x : Int32} : mr120 S P 12 L [.int x] sh M c s = (mv_nr 0 x ∧ P (some (.int x)) sh M) := propext (mv_R_iff (i := .ireturn) (len := 1) (ax := [0]) (by decide +kernel))
theorem e120_13 : mr120 S P 13 L st sh M c s = (mr120 S P 14 L (.int (nI 0) :: st) sh M c s) := propext (mv_R_iff (i := .iconst 0) (len := 1) (ax := []) (by decide +kernel))
theorem e120_14 {x : Int32} : mr120 S P 14 L (.int x :: st) sh M c s = (q_hs L 1 ∧ mr120 S P 15 (L.set 1 (some (.int x))) st sh M c s) := (propext (mv_R_iff (i := .istore_n 1) (len := 1) (ax := []) (by decide +kernel))).trans (q_st_eq (K := fun L => mr120 S P 15 L st sh M c s))
theorem e120_15 : mr120 S P 15 L st sh M c s = (mr120 S P 16 L (.int (nI 0) :: st) sh M c s) := propext (mv_R_iff (i := .iconst 0) (len := 1) (ax := []) (by decide +kernel))
theorem e120_16 {x : Int32} : mr120 S P 16 L (.int x :: st) sh M c s = (q_hs L 2 ∧ mr120 S P 17 (L.set 2 (some (.int x))) st sh M c s) := (propext (mv_R_iff (i := .istore_n 2) (len := 1) (ax := []) (by decide +kernel))).trans (q_st_eq (K := fun L => mr120 S P 17 L st sh M c s))
theorem e120_17 : mr120 S P 17 L st sh M c s = (q_isI (q_gv L 2) ∧ mr120 S P 18 L (q_gv L 2 :: st) sh M c s) := (propext (mv_R_iff (i := .iload_n 2) (len := 1) (ax := []) (by decide +kernel))).trans (q_ldI_eq (K := fun st => mr120 S P 18 L st sh M c s))
theorem e120_18 : mr120 S P 18 L st sh M c s = (q_isA (q_gv L 0) ∧ mr120 S P 19 L (q_gv L 0 :: st) sh M c s) := (propext (mv_R_iff (i := .aload_n 0) (len := 1) (ax := []) (by decide +kernel))).trans (q_ldA_eq (K := fun st => mr120 S P 19 L st sh M c s))
theorem e120_19 {a : Nat} : mr120 S P 19 L (.ref a :: st) sh M c s = (mv_kgf sh M a 4 1 (mr120 S P) 22 L st c s) := propext (mv_R_iff (i := .getfield 19) (len := 3) (ax := [524, 0, 4, 1]) (by decide +kernel))
theorem e120_22 {a : Nat} : mr120 S P 22 L (.ref a :: st) sh M c s = (mv_kgf sh M a 1 2 (mr120 S P) 25 L st c s) := propext (mv_R_iff (i := .getfield 133) (len := 3) (ax := [178, 1, 1, 2]) (by decide +kernel))
theorem e120_25 {y : Int32} {x : Int32} : mr120 S P 25 L (.int y :: .int x :: st) sh M c s = (if y ≤ x then mr120 S P 62 L st sh M c s else mr120 S P 28 L st sh M c s) := (propext (mv_R_iff (i := .if_icmp .ge 37) (len := 3) (ax := [62]) (by decide +kernel))).trans (q_br)
theorem e120_28 : mr120 S P 28 L st sh M c s = (q_isI (q_gv L 1) ∧ mr120 S P 29 L (q_gv L 1 :: st) sh M c s) := (propext (mv_R_iff (i := .iload_n 1) (len := 1) (ax := []) (by decide +kernel))).trans (q_ldI_eq (K := fun st => mr120 S P 29 L st sh M c s))
theorem e120_29 : mr120 S P 29 L st sh M c s = (q_isA (q_gv L 0) ∧ mr120 S P 30 L (q_gv L 0 :: st) sh M c s) := (propext (mv_R_iff (i := .aload_n 0) (len := 1) (ax := []) (by decide +kernel))).trans (q_ldA_eq (K := fun st => mr120 S P 30 L st sh M c s))
theorem e120_30 {a : Nat} : mr120 S P 30 L (.ref a :: st) sh M c s = (mv_kgf sh M a 4 1 (mr120 S P) 33 L st c s) := propext (mv_R_iff (i := .getfield 19) (len := 3) (ax := [524, 0, 4, 1]) (by decide +kernel))
theorem e120_33 : mr120 S P 33 L st sh M c s = (q_isA (q_gv L 0) ∧ mr120 S P 34 L (q_gv L 0 :: st) sh M c s) := (propext (mv_R_iff (i := .aload_n 0) (len := 1) (ax := []) (by decide +kernel))).trans (q_ldA_eq (K := fun st => mr120 S P 34 L st sh M c s))
theorem e120_34 {a : Nat} : mr120 S P 34 L (.ref a :: st) sh M c s = (mv_kgf sh M a 4 1 (mr120 S P) 37 L st c s) := propext (mv_R_iff (i := .getfield 19) (len := 3) (ax := [524, 0, 4, 1]) (by decide +kernel))
theorem e120_37 : mr120 S P 37 L st sh M c s = (q_isI (q_gv L 2) ∧ mr120 S P 38 L (q_gv L 2 :: st) sh M c s) := (propext (mv_R_iff (i := .iload_n 2) (len := 1) (ax := []) (by decide +kernel))).trans (q_ldI_eq (K := fun st => mr120 S P 38 L st sh M c s))
theorem e120_38 {v2 : Value} {v1 : Value} : mr120 S P 38 L (v2 :: v1 :: st) sh M c s = (mv_ss st ≤ 8 ∧ c ≤ 0 ∧ s ≤ 0 ∧ mv_isO sh (some v1) 1 ∧ mv_kal S 55 [v1, v2] sh M (mr120 S P) 41 L st c s) := (propext (mv_R_iff (i := .invokevirtual 167) (len := 3) (ax := [1, 55, 2, 1, 0, 0, 726, 728, 40, 109, 729]) (by decide +kernel))).trans (q_call1)
theorem e120_41 : mr120 S P 41 L st sh M c s = (q_isA (q_gv L 0) ∧ mr120 S P 42 L (q_gv L 0 :: st) sh M c s) := (propext (mv_R_iff (i := .aload_n 0) (len := 1) (ax := []) (by decide +kernel))).trans (q_ldA_eq (K := fun st => mr120 S P 42 L st sh M c s))
theorem e120_42 {a : Nat} : mr120 S P 42 L (.ref a :: st) sh M c s = (mv_kgf sh M a 4 1 (mr120 S P) 45 L st c s) := propext (mv_R_iff (i := .getfield 19) (len := 3) (ax := [524, 0, 4, 1]) (by decide +kernel))
theorem e120_45 : mr120 S P 45 L st sh M c s = (q_isI (q_gv L 2) ∧ mr120 S P 46 L (q_gv L 2 :: st) sh M c s) := (propext (mv_R_iff (i := .iload_n 2) (len := 1) (ax := []) (by decide +kernel))).trans (q_ldI_eq (K := fun st => mr120 S P 46 L st sh M c s))
theorem e120_46 {v2 : Value} {v1 : Value} : mr120 S P 46 L (v2 :: v1 :: st) sh M c s = (mv_ss st ≤ 8 ∧ c ≤ 0 ∧ s ≤ 0 ∧ mv_isO sh (some v1) 1 ∧ mv_kal S 56 [v1, v2] sh M (mr120 S P) 49 L st c s) := (propext (mv_R_iff (i := .invokevirtual 170) (len := 3) (ax := [1, 56, 2, 1, 0, 0, 731, 733, 41, 109, 734]) (by decide +kernel))).trans (q_call1)
theorem e120_49 {v3 : Value} {v2 : Value} {v1 : Value} : mr120 S P 49 L (v3 :: v2 :: v1 :: st) sh M c s = (mv_ss st ≤ 8 ∧ c ≤ 0 ∧ s ≤ 0 ∧ mv_isO sh (some v1) 1 ∧ mv_kal S 80 [v1, v2, v3] sh M (mr120 S P) 52 L st c s) := (propext (mv_R_iff (i := .invokevirtual 192) (len := 3) (ax := [1, 80, 3, 1, 0, 0, 770, 772, 43, 109, 773]) (by decide +kernel))).trans (q_call1)
theorem e120_52 {v2 : Value} {v1 : Value} : mr120 S P 52 L (v2 :: v1 :: st) sh M c s = (mv_ss st ≤ 8 ∧ c ≤ 0 ∧ s ≤ 0 ∧ True ∧ mv_kal S 51 [v1, v2] sh M (mr120 S P) 55 L st c s) := (propext (mv_R_iff (i := .invokestatic 195) (len := 3) (ax := [3, 51, 2, 0, 0, 0, 0, 777, 778, 104, 779]) (by decide +kernel))).trans (q_call3)
theorem e120_55 {x : Int32} : mr120 S P 55 L (.int x :: st) sh M c s = (q_hs L 1 ∧ mr120 S P 56 (L.set 1 (some (.int x))) st sh M c s) := (propext (mv_R_iff (i := .istore_n 1) (len := 1) (ax := []) (by decide +kernel))).trans (q_st_eq (K := fun L => mr120 S P 56 L st sh M c s))
theorem e120_56 : mr120 S P 56 L st sh M c s = ((q_isI (q_gv L 2) ∧ q_hs L 2) ∧ mr120 S P 59 (L.set 2 (some (q_inc (q_gv L 2) (nI 1)))) st sh M c s) := (propext (mv_R_iff (i := .iinc 2 1) (len := 3) (ax := []) (by decide +kernel))).trans (q_inc_eq (K := fun L => mr120 S P 59 L st sh M c s))
theorem e120_59 : mr120 S P 59 L st sh M c s = (mr120 S P 17 L st sh M c s) := propext (mv_R_iff (i := .goto (-42)) (len := 3) (ax := [17]) (by decide +kernel))
theorem e120_62 : mr120 S P 62 L st sh M c s = (q_isI (q_gv L 1) ∧ mr120 S P 63 L (q_gv L 1 :: st) sh M c s) := (propext (mv_R_iff (i := .iload_n 1) (len := 1) (ax := []) (by decide +kernel))).trans (q_ldI_eq (K := fun st => mr120 S P 63 L st sh M c s))
theorem e120_63 {x : Int32} : mr120 S P 63 L (.int x :: st) sh M c s = (if x = nI 0 then mr120 S P 66 L st sh M c s else mr120 S P 68 L st sh M c s) := (propext (mv_R_iff (i := .ifCond .ne 5) (len := 3) (ax := [68]) (by decide +kernel))).trans (q_br')
theorem e120_66 : mr120 S P 66 L st sh M c s = (mr120 S P 67 L (.int (nI 1) :: st) sh M c s) := propext (mv_R_iff (i := .iconst 1) (len := 1) (ax := []) (by decide +kernel))
theorem e120_67 {x : Int32} : mr120 S P 67 L [.int x] sh M c s = (mv_nr 0 x ∧ P (some (.int x)) sh M) := propext (mv_R_iff (i := .ireturn) (len := 1) (ax := [0]) (by decide +kernel))
theorem e120_68 : mr120 S P 68 L st sh M c s = (q_isI (q_gv L 1) ∧ mr120 S P 69 L (q_gv L 1 :: st) sh M c s) := (propext (mv_R_iff (i := .iload_n 1) (len := 1) (ax := []) (by decide +kernel))).trans (q_ldI_eq (K := fun st => mr120 S P 69 L st sh M c s))
theorem e120_69 : mr120 S P 69 L st sh M c s = (q_isI (q_gv L 1) ∧ mr120 S P 70 L (q_gv L 1 :: st) sh M c s) := (propext (mv_R_iff (i := .iload_n 1) (len := 1) (ax := []) (by decide +kernel))).trans (q_ldI_eq (K := fun st => mr120 S P 70 L st sh M c s))
theorem e120_70 {v2 : Value} {v1 : Value} : mr120 S P 70 L (v2 :: v1 :: st) sh M c s = (mv_ss st ≤ 8 ∧ c ≤ 0 ∧ s ≤ 0 ∧ True ∧ mv_kal S 51 [v1, v2] sh M (mr120 S P) 73 L st c s) := (propext (mv_R_iff (i := .invokestatic 195) (len := 3) (ax := [3, 51, 2, 0, 0, 0, 0, 777, 778, 104, 779]) (by decide +kernel))).trans (q_call3)
theorem e120_73 {x : Int32} : mr120 S P 73 L (.int x :: st) sh M c s = (if x = nI 0 then mr120 S P 76 L st sh M c s else mr120 S P 80 L st sh M c s) := (propext (mv_R_iff (i := .ifCond .ne 7) (len := 3) (ax := [80]) (by decide +kernel))).trans (q_br')
theorem e120_76 : mr120 S P 76 L st sh M c s = (mr120 S P 77 L (.int (nI 2) :: st) sh M c s) := propext (mv_R_iff (i := .iconst 2) (len := 1) (ax := []) (by decide +kernel))
theorem e120_77 : mr120 S P 77 L st sh M c s = (mr120 S P 81 L st sh M c s) := propext (mv_R_iff (i := .goto 4) (len := 3) (ax := [81]) (by decide +kernel))
theorem e120_80 : mr120 S P 80 L st sh M c s = (mr120 S P 81 L (.int (nI 4) :: st) sh M c s) := propext (mv_R_iff (i := .iconst 4) (len := 1) (ax := []) (by decide +kernel))
theorem e120_81 {x : Int32} : mr120 S P 81 L [.int x] sh M c s = (mv_nr 0 x ∧ P (some (.int x)) sh M) := propext (mv_R_iff (i := .ireturn) (len := 1) (ax := [0]) (by decide +kernel))
-- 124: TurnedTablets.see(I)I
def mk124 : mv_Cd := [
  (0, .aload_n 0, 1, []),
  (1, .getfield 19, 3, [524, 0, 4, 1]),
  (4, .iload_n 1, 1, []),
  (5, .invokevirtual 208, 3, [1, 73, 2, 1, 0, 0, 795, 797, 44, 109, 798]),
  (8, .ifCond .ne 5, 3, [13]),
  (11, .iconst (-1), 1, []),
  (12, .ireturn, 1, [0]),
  (13, .aload_n 0, 1, []),
  (14, .getfield 100, 3, [534, 0, 4, 11]),
  (17, .bipush 6, 2, []),
  (19, .if_icmp .lt 6, 3, [25]),
  (22, .bipush (-3), 2, []),
  (24, .ireturn, 1, [0]),
  (25, .aload_n 0, 1, []),
  (26, .getfield 49, 3, [533, 0, 4, 10]),
  (29, .aload_n 0, 1, []),
  (30, .getfield 100, 3, [534, 0, 4, 11]),
  (33, .iload_n 1, 1, []),
  (34, .iastore, 1, []),
  (35, .aload_n 0, 1, []),
  (36, .dup, 1, []),
  (37, .getfield 100, 3, [534, 0, 4, 11]),
  (40, .iconst 1, 1, []),
  (41, .iadd, 1, []),
  (42, .putfield 100, 3, [534, 0, 4, 11, 0]),
  (45, .aload_n 0, 1, []),
  (46, .getfield 100, 3, [534, 0, 4, 11]),
  (49, .ireturn, 1, [0])]
def mr124 (S : Nat → mv_Sp) (P : mv_Post) : mv_Kt := mv_R mv_DF mk124 S (0, 0) P
theorem e124_0 : mr124 S P 0 L st sh M c s = (q_isA (q_gv L 0) ∧ mr124 S P 1 L (q_gv L 0 :: st) sh M c s) := (propext (mv_R_iff (i := .aload_n 0) (len := 1) (ax := []) (by decide +kernel))).trans (q_ldA_eq (K := fun st => mr124 S P 1 L st sh M c s))
theorem e124_1 {a : Nat} : mr124 S P 1 L (.ref a :: st) sh M c s = (mv_kgf sh M a 4 1 (mr124 S P) 4 L st c s) := propext (mv_R_iff (i := .getfield 19) (len := 3) (ax := [524, 0, 4, 1]) (by decide +kernel))
theorem e124_4 : mr124 S P 4 L st sh M c s = (q_isI (q_gv L 1) ∧ mr124 S P 5 L (q_gv L 1 :: st) sh M c s) := (propext (mv_R_iff (i := .iload_n 1) (len := 1) (ax := []) (by decide +kernel))).trans (q_ldI_eq (K := fun st => mr124 S P 5 L st sh M c s))
theorem e124_5 {v2 : Value} {v1 : Value} : mr124 S P 5 L (v2 :: v1 :: st) sh M c s = (mv_ss st ≤ 8 ∧ c ≤ 0 ∧ s ≤ 0 ∧ mv_isO sh (some v1) 1 ∧ mv_kal S 73 [v1, v2] sh M (mr124 S P) 8 L st c s) := (propext (mv_R_iff (i := .invokevirtual 208) (len := 3) (ax := [1, 73, 2, 1, 0, 0, 795, 797, 44, 109, 798]) (by decide +kernel))).trans (q_call1)
theorem e124_8 {x : Int32} : mr124 S P 8 L (.int x :: st) sh M c s = (if x = nI 0 then mr124 S P 11 L st sh M c s else mr124 S P 13 L st sh M c s) := (propext (mv_R_iff (i := .ifCond .ne 5) (len := 3) (ax := [13]) (by decide +kernel))).trans (q_br')
theorem e124_11 : mr124 S P 11 L st sh M c s = (mr124 S P 12 L (.int (Int32.ofInt (-1)) :: st) sh M c s) := propext (mv_R_iff (i := .iconst (-1)) (len := 1) (ax := []) (by decide +kernel))
theorem e124_12 {x : Int32} : mr124 S P 12 L [.int x] sh M c s = (mv_nr 0 x ∧ P (some (.int x)) sh M) := propext (mv_R_iff (i := .ireturn) (len := 1) (ax := [0]) (by decide +kernel))
theorem e124_13 : mr124 S P 13 L st sh M c s = (q_isA (q_gv L 0) ∧ mr124 S P 14 L (q_gv L 0 :: st) sh M c s) := (propext (mv_R_iff (i := .aload_n 0) (len := 1) (ax := []) (by decide +kernel))).trans (q_ldA_eq (K := fun st => mr124 S P 14 L st sh M c s))
theorem e124_14 {a : Nat} : mr124 S P 14 L (.ref a :: st) sh M c s = (mv_kgf sh M a 4 11 (mr124 S P) 17 L st c s) := propext (mv_R_iff (i := .getfield 100) (len := 3) (ax := [534, 0, 4, 11]) (by decide +kernel))
theorem e124_17 : mr124 S P 17 L st sh M c s = (mr124 S P 19 L (.int (nI 6) :: st) sh M c s) := propext (mv_R_iff (i := .bipush 6) (len := 2) (ax := []) (by decide +kernel))
theorem e124_19 {y : Int32} {x : Int32} : mr124 S P 19 L (.int y :: .int x :: st) sh M c s = (if x < y then mr124 S P 25 L st sh M c s else mr124 S P 22 L st sh M c s) := (propext (mv_R_iff (i := .if_icmp .lt 6) (len := 3) (ax := [25]) (by decide +kernel))).trans (q_br)
theorem e124_22 : mr124 S P 22 L st sh M c s = (mr124 S P 24 L (.int (Int32.ofInt (-3)) :: st) sh M c s) := (propext (mv_R_iff (i := .bipush (-3)) (len := 2) (ax := []) (by decide +kernel))).trans (congrArg (fun z => mr124 S P 24 L (.int z :: st) sh M c s) (by decide : (Int8.ofInt (-3)).toInt32 = Int32.ofInt (-3)))
theorem e124_24 {x : Int32} : mr124 S P 24 L [.int x] sh M c s = (mv_nr 0 x ∧ P (some (.int x)) sh M) := propext (mv_R_iff (i := .ireturn) (len := 1) (ax := [0]) (by decide +kernel))
theorem e124_25 : mr124 S P 25 L st sh M c s = (q_isA (q_gv L 0) ∧ mr124 S P 26 L (q_gv L 0 :: st) sh M c s) := (propext (mv_R_iff (i := .aload_n 0) (len := 1) (ax := []) (by decide +kernel))).trans (q_ldA_eq (K := fun st => mr124 S P 26 L st sh M c s))
theorem e124_26 {a : Nat} : mr124 S P 26 L (.ref a :: st) sh M c s = (mv_kgf sh M a 4 10 (mr124 S P) 29 L st c s) := propext (mv_R_iff (i := .getfield 49) (len := 3) (ax := [533, 0, 4, 10]) (by decide +kernel))
theorem e124_29 : mr124 S P 29 L st sh M c s = (q_isA (q_gv L 0) ∧ mr124 S P 30 L (q_gv L 0 :: st) sh M c s) := (propext (mv_R_iff (i := .aload_n 0) (len := 1) (ax := []) (by decide +kernel))).trans (q_ldA_eq (K := fun st => mr124 S P 30 L st sh M c s))
theorem e124_30 {a : Nat} : mr124 S P 30 L (.ref a :: st) sh M c s = (mv_kgf sh M a 4 11 (mr124 S P) 33 L st c s) := propext (mv_R_iff (i := .getfield 100) (len := 3) (ax := [534, 0, 4, 11]) (by decide +kernel))
theorem e124_33 : mr124 S P 33 L st sh M c s = (q_isI (q_gv L 1) ∧ mr124 S P 34 L (q_gv L 1 :: st) sh M c s) := (propext (mv_R_iff (i := .iload_n 1) (len := 1) (ax := []) (by decide +kernel))).trans (q_ldI_eq (K := fun st => mr124 S P 34 L st sh M c s))
theorem e124_34 {x : Int32} {i : Int32} {a : Nat} : mr124 S P 34 L (.int x :: .int i :: .ref a :: st) sh M c s = (mv_kst sh M a i x (mr124 S P) 35 L st c s) := propext (mv_R_iff (i := .iastore) (len := 1) (ax := []) (by decide +kernel))
theorem e124_35 : mr124 S P 35 L st sh M c s = (q_isA (q_gv L 0) ∧ mr124 S P 36 L (q_gv L 0 :: st) sh M c s) := (propext (mv_R_iff (i := .aload_n 0) (len := 1) (ax := []) (by decide +kernel))).trans (q_ldA_eq (K := fun st => mr124 S P 36 L st sh M c s))
theorem e124_36 {x : Int32} : mr124 S P 36 L (.int x :: st) sh M c s = (mr124 S P 37 L (.int x :: .int x :: st) sh M c s) := propext (mv_R_iff (i := .dup) (len := 1) (ax := []) (by decide +kernel))
theorem e124_36r {x : Nat} : mr124 S P 36 L (.ref x :: st) sh M c s = (mr124 S P 37 L (.ref x :: .ref x :: st) sh M c s) := propext (mv_R_iff (i := .dup) (len := 1) (ax := []) (by decide +kernel))
theorem e124_37 {a : Nat} : mr124 S P 37 L (.ref a :: st) sh M c s = (mv_kgf sh M a 4 11 (mr124 S P) 40 L st c s) := propext (mv_R_iff (i := .getfield 100) (len := 3) (ax := [534, 0, 4, 11]) (by decide +kernel))
theorem e124_40 : mr124 S P 40 L st sh M c s = (mr124 S P 41 L (.int (nI 1) :: st) sh M c s) := propext (mv_R_iff (i := .iconst 1) (len := 1) (ax := []) (by decide +kernel))
theorem e124_41 {y : Int32} {x : Int32} : mr124 S P 41 L (.int y :: .int x :: st) sh M c s = (mr124 S P 42 L (.int (x + y) :: st) sh M c s) := propext (mv_R_iff (i := .iadd) (len := 1) (ax := []) (by decide +kernel))
theorem e124_42 {x : Int32} {a : Nat} : mr124 S P 42 L (.int x :: .ref a :: st) sh M c s = (True ∧ mv_kpf sh M a 4 11 x (mr124 S P) 45 L st c s) := propext (mv_R_iff (i := .putfield 100) (len := 3) (ax := [534, 0, 4, 11, 0]) (by decide +kernel))
theorem e124_45 : mr124 S P 45 L st sh M c s = (q_isA (q_gv L 0) ∧ mr124 S P 46 L (q_gv L 0 :: st) sh M c s) := (propext (mv_R_iff (i := .aload_n 0) (len := 1) (ax := []) (by decide +kernel))).trans (q_ldA_eq (K := fun st => mr124 S P 46 L st sh M c s))
theorem e124_46 {a : Nat} : mr124 S P 46 L (.ref a :: st) sh M c s = (mv_kgf sh M a 4 11 (mr124 S P) 49 L st c s) := propext (mv_R_iff (i := .getfield 100) (len := 3) (ax := [534, 0, 4, 11]) (by decide +kernel))
theorem e124_49 {x : Int32} : mr124 S P 49 L [.int x] sh M c s = (mv_nr 0 x ∧ P (some (.int x)) sh M) := propext (mv_R_iff (i := .ireturn) (len := 1) (ax := [0]) (by decide +kernel))
-- 128: TurnedTablets.top(I)I
def mk128 : mv_Cd := [
  (0, .iload_n 1, 1, []),
  (1, .ifCond .ne 18, 3, [19]),
  (4, .aload_n 0, 1, []),
  (5, .getfield 19, 3, [524, 0, 4, 1]),
  (8, .aload_n 0, 1, []),
  (9, .getfield 35, 3, [526, 0, 4, 3]),
  (12, .invokevirtual 139, 3, [1, 66, 1, 0, 0, 0, 644, 646, 27, 111, 647]),
  (15, .invokevirtual 142, 3, [1, 67, 2, 1, 0, 0, 651, 653, 28, 109, 654]),
  (18, .ireturn, 1, [0]),
  (19, .iload_n 1, 1, []),
  (20, .iconst 1, 1, []),
  (21, .if_icmp .ne 20, 3, [41]),
  (24, .aload_n 0, 1, []),
  (25, .getfield 35, 3, [526, 0, 4, 3]),
  (28, .aload_n 0, 1, []),
  (29, .getfield 19, 3, [524, 0, 4, 1]),
  (32, .getfield 86, 3, [168, 1, 1, 0]),
  (35, .invokevirtual 145, 3, [1, 69, 2, 0, 0, 0, 655, 657, 29, 111, 658]),
  (38, .goto 4, 3, [42]),
  (41, .iconst (-1), 1, []),
  (42, .ireturn, 1, [0])]
def mr128 (S : Nat → mv_Sp) (P : mv_Post) : mv_Kt := mv_R mv_DF mk128 S (0, 0) P
theorem e128_0 : mr128 S P 0 L st sh M c s = (q_isI (q_gv L 1) ∧ mr128 S P 1 L (q_gv L 1 :: st) sh M c s) := (propext (mv_R_iff (i := .iload_n 1) (len := 1) (ax := []) (by decide +kernel))).trans (q_ldI_eq (K := fun st => mr128 S P 1 L st sh M c s))
theorem e128_1 {x : Int32} : mr128 S P 1 L (.int x :: st) sh M c s = (if x = nI 0 then mr128 S P 4 L st sh M c s else mr128 S P 19 L st sh M c s) := (propext (mv_R_iff (i := .ifCond .ne 18) (len := 3) (ax := [19]) (by decide +kernel))).trans (q_br')
theorem e128_4 : mr128 S P 4 L st sh M c s = (q_isA (q_gv L 0) ∧ mr128 S P 5 L (q_gv L 0 :: st) sh M c s) := (propext (mv_R_iff (i := .aload_n 0) (len := 1) (ax := []) (by decide +kernel))).trans (q_ldA_eq (K := fun st => mr128 S P 5 L st sh M c s))
theorem e128_5 {a : Nat} : mr128 S P 5 L (.ref a :: st) sh M c s = (mv_kgf sh M a 4 1 (mr128 S P) 8 L st c s) := propext (mv_R_iff (i := .getfield 19) (len := 3) (ax := [524, 0, 4, 1]) (by decide +kernel))
theorem e128_8 : mr128 S P 8 L st sh M c s = (q_isA (q_gv L 0) ∧ mr128 S P 9 L (q_gv L 0 :: st) sh M c s) := (propext (mv_R_iff (i := .aload_n 0) (len := 1) (ax := []) (by decide +kernel))).trans (q_ldA_eq (K := fun st => mr128 S P 9 L st sh M c s))
theorem e128_9 {a : Nat} : mr128 S P 9 L (.ref a :: st) sh M c s = (mv_kgf sh M a 4 3 (mr128 S P) 12 L st c s) := propext (mv_R_iff (i := .getfield 35) (len := 3) (ax := [526, 0, 4, 3]) (by decide +kernel))
theorem e128_12 {v1 : Value} : mr128 S P 12 L (v1 :: st) sh M c s = (mv_ss st ≤ 8 ∧ c ≤ 0 ∧ s ≤ 0 ∧ mv_isO sh (some v1) 0 ∧ mv_kal S 66 [v1] sh M (mr128 S P) 15 L st c s) := (propext (mv_R_iff (i := .invokevirtual 139) (len := 3) (ax := [1, 66, 1, 0, 0, 0, 644, 646, 27, 111, 647]) (by decide +kernel))).trans (q_call1)
theorem e128_15 {v2 : Value} {v1 : Value} : mr128 S P 15 L (v2 :: v1 :: st) sh M c s = (mv_ss st ≤ 8 ∧ c ≤ 0 ∧ s ≤ 0 ∧ mv_isO sh (some v1) 1 ∧ mv_kal S 67 [v1, v2] sh M (mr128 S P) 18 L st c s) := (propext (mv_R_iff (i := .invokevirtual 142) (len := 3) (ax := [1, 67, 2, 1, 0, 0, 651, 653, 28, 109, 654]) (by decide +kernel))).trans (q_call1)
theorem e128_18 {x : Int32} : mr128 S P 18 L [.int x] sh M c s = (mv_nr 0 x ∧ P (some (.int x)) sh M) := propext (mv_R_iff (i := .ireturn) (len := 1) (ax := [0]) (by decide +kernel))
theorem e128_19 : mr128 S P 19 L st sh M c s = (q_isI (q_gv L 1) ∧ mr128 S P 20 L (q_gv L 1 :: st) sh M c s) := (propext (mv_R_iff (i := .iload_n 1) (len := 1) (ax := []) (by decide +kernel))).trans (q_ldI_eq (K := fun st => mr128 S P 20 L st sh M c s))
theorem e128_20 : mr128 S P 20 L st sh M c s = (mr128 S P 21 L (.int (nI 1) :: st) sh M c s) := propext (mv_R_iff (i := .iconst 1) (len := 1) (ax := []) (by decide +kernel))
theorem e128_21 {y : Int32} {x : Int32} : mr128 S P 21 L (.int y :: .int x :: st) sh M c s = (if x = y then mr128 S P 24 L st sh M c s else mr128 S P 41 L st sh M c s) := (propext (mv_R_iff (i := .if_icmp .ne 20) (len := 3) (ax := [41]) (by decide +kernel))).trans (q_br')
theorem e128_24 : mr128 S P 24 L st sh M c s = (q_isA (q_gv L 0) ∧ mr128 S P 25 L (q_gv L 0 :: st) sh M c s) := (propext (mv_R_iff (i := .aload_n 0) (len := 1) (ax := []) (by decide +kernel))).trans (q_ldA_eq (K := fun st => mr128 S P 25 L st sh M c s))
theorem e128_25 {a : Nat} : mr128 S P 25 L (.ref a :: st) sh M c s = (mv_kgf sh M a 4 3 (mr128 S P) 28 L st c s) := propext (mv_R_iff (i := .getfield 35) (len := 3) (ax := [526, 0, 4, 3]) (by decide +kernel))
theorem e128_28 : mr128 S P 28 L st sh M c s = (q_isA (q_gv L 0) ∧ mr128 S P 29 L (q_gv L 0 :: st) sh M c s) := (propext (mv_R_iff (i := .aload_n 0) (len := 1) (ax := []) (by decide +kernel))).trans (q_ldA_eq (K := fun st => mr128 S P 29 L st sh M c s))
theorem e128_29 {a : Nat} : mr128 S P 29 L (.ref a :: st) sh M c s = (mv_kgf sh M a 4 1 (mr128 S P) 32 L st c s) := propext (mv_R_iff (i := .getfield 19) (len := 3) (ax := [524, 0, 4, 1]) (by decide +kernel))
theorem e128_32 {a : Nat} : mr128 S P 32 L (.ref a :: st) sh M c s = (mv_kgf sh M a 1 0 (mr128 S P) 35 L st c s) := propext (mv_R_iff (i := .getfield 86) (len := 3) (ax := [168, 1, 1, 0]) (by decide +kernel))
theorem e128_35 {v2 : Value} {v1 : Value} : mr128 S P 35 L (v2 :: v1 :: st) sh M c s = (mv_ss st ≤ 8 ∧ c ≤ 0 ∧ s ≤ 0 ∧ mv_isO sh (some v1) 0 ∧ mv_kal S 69 [v1, v2] sh M (mr128 S P) 38 L st c s) := (propext (mv_R_iff (i := .invokevirtual 145) (len := 3) (ax := [1, 69, 2, 0, 0, 0, 655, 657, 29, 111, 658]) (by decide +kernel))).trans (q_call1)
theorem e128_38 : mr128 S P 38 L st sh M c s = (mr128 S P 42 L st sh M c s) := propext (mv_R_iff (i := .goto 4) (len := 3) (ax := [42]) (by decide +kernel))
theorem e128_41 : mr128 S P 41 L st sh M c s = (mr128 S P 42 L (.int (Int32.ofInt (-1)) :: st) sh M c s) := propext (mv_R_iff (i := .iconst (-1)) (len := 1) (ax := []) (by decide +kernel))
theorem e128_42 {x : Int32} : mr128 S P 42 L [.int x] sh M c s = (mv_nr 0 x ∧ P (some (.int x)) sh M) := propext (mv_R_iff (i := .ireturn) (len := 1) (ax := [0]) (by decide +kernel))
-- 130: TurnedTablets.twist(I)I
def mk130 : mv_Cd := [
  (0, .aload_n 0, 1, []),
  (1, .iload_n 1, 1, []),
  (2, .invokevirtual 109, 3, [0, 91, 2, 4, 0, 0, 0, 598, 600, 20, 104, 601]),
  (5, .ifCond .ne 5, 3, [10]),
  (8, .iconst (-1), 1, []),
  (9, .ireturn, 1, [0]),
  (10, .iconst 0, 1, []),
  (11, .istore_n 2, 1, []),
  (12, .iconst 0, 1, []),
  (13, .istore_n 3, 1, []),
  (14, .iload_n 3, 1, []),
  (15, .aload_n 0, 1, []),
  (16, .getfield 19, 3, [524, 0, 4, 1]),
  (19, .getfield 133, 3, [178, 1, 1, 2]),
  (22, .if_icmp .ge 47, 3, [69]),
  (25, .aload_n 0, 1, []),
  (26, .getfield 19, 3, [524, 0, 4, 1]),
  (29, .aload_n 0, 1, []),
  (30, .getfield 19, 3, [524, 0, 4, 1]),
  (33, .iload_n 3, 1, []),
  (34, .invokevirtual 167, 3, [1, 55, 2, 1, 0, 0, 726, 728, 40, 109, 729]),
  (37, .iload_n 1, 1, []),
  (38, .invokevirtual 198, 3, [1, 58, 3, 1, 0, 0, 784, 699, 36, 109, 700]),
  (41, .ifCond .eq 22, 3, [63]),
  (44, .iload_n 2, 1, []),
  (45, .aload_n 0, 1, []),
  (46, .getfield 19, 3, [524, 0, 4, 1]),
  (49, .iload_n 1, 1, []),
  (50, .aload_n 0, 1, []),
  (51, .getfield 19, 3, [524, 0, 4, 1]),
  (54, .iload_n 3, 1, []),
  (55, .invokevirtual 170, 3, [1, 56, 2, 1, 0, 0, 731, 733, 41, 109, 734]),
  (58, .invokevirtual 202, 3, [1, 60, 3, 1, 0, 0, 785, 712, 39, 109, 713]),
  (61, .iadd, 1, []),
  (62, .istore_n 2, 1, []),
  (63, .iinc 3 1, 3, []),
  (66, .goto (-52), 3, [14]),
  (69, .iload_n 2, 1, []),
  (70, .bipush 40, 2, []),
  (72, .iadd, 1, []),
  (73, .ireturn, 1, [0])]
def mr130 (S : Nat → mv_Sp) (P : mv_Post) : mv_Kt := mv_R mv_DF mk130 S (0, 0) P
theorem e130_0 : mr130 S P 0 L st sh M c s = (q_isA (q_gv L 0) ∧ mr130 S P 1 L (q_gv L 0 :: st) sh M c s) := (propext (mv_R_iff (i := .aload_n 0) (len := 1) (ax := []) (by decide +kernel))).trans (q_ldA_eq (K := fun st => mr130 S P 1 L st sh M c s))
theorem e130_1 : mr130 S P 1 L st sh M c s = (q_isI (q_gv L 1) ∧ mr130 S P 2 L (q_gv L 1 :: st) sh M c s) := (propext (mv_R_iff (i := .iload_n 1) (len := 1) (ax := []) (by decide +kernel))).trans (q_ldI_eq (K := fun st => mr130 S P 2 L st sh M c s))
theorem e130_2 {v2 : Value} {v1 : Value} : mr130 S P 2 L (v2 :: v1 :: st) sh M c s = (mv_ss st ≤ 8 ∧ c ≤ 0 ∧ s ≤ 0 ∧ mv_isO sh (some v1) 4 ∧ mv_kal S 91 [v1, v2] sh M (mr130 S P) 5 L st c s) := (propext (mv_R_iff (i := .invokevirtual 109) (len := 3) (ax := [0, 91, 2, 4, 0, 0, 0, 598, 600, 20, 104, 601]) (by decide +kernel))).trans (q_call0)
theorem e130_5 {x : Int32} : mr130 S P 5 L (.int x :: st) sh M c s = (if x = nI 0 then mr130 S P 8 L st sh M c s else mr130 S P 10 L st sh M c s) := (propext (mv_R_iff (i := .ifCond .ne 5) (len := 3) (ax := [10]) (by decide +kernel))).trans (q_br')
theorem e130_8 : mr130 S P 8 L st sh M c s = (mr130 S P 9 L (.int (Int32.ofInt (-1)) :: st) sh M c s) := propext (mv_R_iff (i := .iconst (-1)) (len := 1) (ax := []) (by decide +kernel))
theorem e130_9 {x : Int32} : mr130 S P 9 L [.int x] sh M c s = (mv_nr 0 x ∧ P (some (.int x)) sh M) := propext (mv_R_iff (i := .ireturn) (len := 1) (ax := [0]) (by decide +kernel))
theorem e130_10 : mr130 S P 10 L st sh M c s = (mr130 S P 11 L (.int (nI 0) :: st) sh M c s) := propext (mv_R_iff (i := .iconst 0) (len := 1) (ax := []) (by decide +kernel))
theorem e130_11 {x : Int32} : mr130 S P 11 L (.int x :: st) sh M c s = (q_hs L 2 ∧ mr130 S P 12 (L.set 2 (some (.int x))) st sh M c s) := (propext (mv_R_iff (i := .istore_n 2) (len := 1) (ax := []) (by decide +kernel))).trans (q_st_eq (K := fun L => mr130 S P 12 L st sh M c s))
theorem e130_12 : mr130 S P 12 L st sh M c s = (mr130 S P 13 L (.int (nI 0) :: st) sh M c s) := propext (mv_R_iff (i := .iconst 0) (len := 1) (ax := []) (by decide +kernel))
theorem e130_13 {x : Int32} : mr130 S P 13 L (.int x :: st) sh M c s = (q_hs L 3 ∧ mr130 S P 14 (L.set 3 (some (.int x))) st sh M c s) := (propext (mv_R_iff (i := .istore_n 3) (len := 1) (ax := []) (by decide +kernel))).trans (q_st_eq (K := fun L => mr130 S P 14 L st sh M c s))
theorem e130_14 : mr130 S P 14 L st sh M c s = (q_isI (q_gv L 3) ∧ mr130 S P 15 L (q_gv L 3 :: st) sh M c s) := (propext (mv_R_iff (i := .iload_n 3) (len := 1) (ax := []) (by decide +kernel))).trans (q_ldI_eq (K := fun st => mr130 S P 15 L st sh M c s))
theorem e130_15 : mr130 S P 15 L st sh M c s = (q_isA (q_gv L 0) ∧ mr130 S P 16 L (q_gv L 0 :: st) sh M c s) := (propext (mv_R_iff (i := .aload_n 0) (len := 1) (ax := []) (by decide +kernel))).trans (q_ldA_eq (K := fun st => mr130 S P 16 L st sh M c s))
theorem e130_16 {a : Nat} : mr130 S P 16 L (.ref a :: st) sh M c s = (mv_kgf sh M a 4 1 (mr130 S P) 19 L st c s) := propext (mv_R_iff (i := .getfield 19) (len := 3) (ax := [524, 0, 4, 1]) (by decide +kernel))
theorem e130_19 {a : Nat} : mr130 S P 19 L (.ref a :: st) sh M c s = (mv_kgf sh M a 1 2 (mr130 S P) 22 L st c s) := propext (mv_R_iff (i := .getfield 133) (len := 3) (ax := [178, 1, 1, 2]) (by decide +kernel))
theorem e130_22 {y : Int32} {x : Int32} : mr130 S P 22 L (.int y :: .int x :: st) sh M c s = (if y ≤ x then mr130 S P 69 L st sh M c s else mr130 S P 25 L st sh M c s) := (propext (mv_R_iff (i := .if_icmp .ge 47) (len := 3) (ax := [69]) (by decide +kernel))).trans (q_br)
theorem e130_25 : mr130 S P 25 L st sh M c s = (q_isA (q_gv L 0) ∧ mr130 S P 26 L (q_gv L 0 :: st) sh M c s) := (propext (mv_R_iff (i := .aload_n 0) (len := 1) (ax := []) (by decide +kernel))).trans (q_ldA_eq (K := fun st => mr130 S P 26 L st sh M c s))
theorem e130_26 {a : Nat} : mr130 S P 26 L (.ref a :: st) sh M c s = (mv_kgf sh M a 4 1 (mr130 S P) 29 L st c s) := propext (mv_R_iff (i := .getfield 19) (len := 3) (ax := [524, 0, 4, 1]) (by decide +kernel))
theorem e130_29 : mr130 S P 29 L st sh M c s = (q_isA (q_gv L 0) ∧ mr130 S P 30 L (q_gv L 0 :: st) sh M c s) := (propext (mv_R_iff (i := .aload_n 0) (len := 1) (ax := []) (by decide +kernel))).trans (q_ldA_eq (K := fun st => mr130 S P 30 L st sh M c s))
theorem e130_30 {a : Nat} : mr130 S P 30 L (.ref a :: st) sh M c s = (mv_kgf sh M a 4 1 (mr130 S P) 33 L st c s) := propext (mv_R_iff (i := .getfield 19) (len := 3) (ax := [524, 0, 4, 1]) (by decide +kernel))
theorem e130_33 : mr130 S P 33 L st sh M c s = (q_isI (q_gv L 3) ∧ mr130 S P 34 L (q_gv L 3 :: st) sh M c s) := (propext (mv_R_iff (i := .iload_n 3) (len := 1) (ax := []) (by decide +kernel))).trans (q_ldI_eq (K := fun st => mr130 S P 34 L st sh M c s))
theorem e130_34 {v2 : Value} {v1 : Value} : mr130 S P 34 L (v2 :: v1 :: st) sh M c s = (mv_ss st ≤ 8 ∧ c ≤ 0 ∧ s ≤ 0 ∧ mv_isO sh (some v1) 1 ∧ mv_kal S 55 [v1, v2] sh M (mr130 S P) 37 L st c s) := (propext (mv_R_iff (i := .invokevirtual 167) (len := 3) (ax := [1, 55, 2, 1, 0, 0, 726, 728, 40, 109, 729]) (by decide +kernel))).trans (q_call1)
theorem e130_37 : mr130 S P 37 L st sh M c s = (q_isI (q_gv L 1) ∧ mr130 S P 38 L (q_gv L 1 :: st) sh M c s) := (propext (mv_R_iff (i := .iload_n 1) (len := 1) (ax := []) (by decide +kernel))).trans (q_ldI_eq (K := fun st => mr130 S P 38 L st sh M c s))
theorem e130_38 {v3 : Value} {v2 : Value} {v1 : Value} : mr130 S P 38 L (v3 :: v2 :: v1 :: st) sh M c s = (mv_ss st ≤ 8 ∧ c ≤ 0 ∧ s ≤ 0 ∧ mv_isO sh (some v1) 1 ∧ mv_kal S 58 [v1, v2, v3] sh M (mr130 S P) 41 L st c s) := (propext (mv_R_iff (i := .invokevirtual 198) (len := 3) (ax := [1, 58, 3, 1, 0, 0, 784, 699, 36, 109, 700]) (by decide +kernel))).trans (q_call1)
theorem e130_41 {x : Int32} : mr130 S P 41 L (.int x :: st) sh M c s = (if x = nI 0 then mr130 S P 63 L st sh M c s else mr130 S P 44 L st sh M c s) := (propext (mv_R_iff (i := .ifCond .eq 22) (len := 3) (ax := [63]) (by decide +kernel))).trans (q_br)
theorem e130_44 : mr130 S P 44 L st sh M c s = (q_isI (q_gv L 2) ∧ mr130 S P 45 L (q_gv L 2 :: st) sh M c s) := (propext (mv_R_iff (i := .iload_n 2) (len := 1) (ax := []) (by decide +kernel))).trans (q_ldI_eq (K := fun st => mr130 S P 45 L st sh M c s))
theorem e130_45 : mr130 S P 45 L st sh M c s = (q_isA (q_gv L 0) ∧ mr130 S P 46 L (q_gv L 0 :: st) sh M c s) := (propext (mv_R_iff (i := .aload_n 0) (len := 1) (ax := []) (by decide +kernel))).trans (q_ldA_eq (K := fun st => mr130 S P 46 L st sh M c s))
theorem e130_46 {a : Nat} : mr130 S P 46 L (.ref a :: st) sh M c s = (mv_kgf sh M a 4 1 (mr130 S P) 49 L st c s) := propext (mv_R_iff (i := .getfield 19) (len := 3) (ax := [524, 0, 4, 1]) (by decide +kernel))
theorem e130_49 : mr130 S P 49 L st sh M c s = (q_isI (q_gv L 1) ∧ mr130 S P 50 L (q_gv L 1 :: st) sh M c s) := (propext (mv_R_iff (i := .iload_n 1) (len := 1) (ax := []) (by decide +kernel))).trans (q_ldI_eq (K := fun st => mr130 S P 50 L st sh M c s))
theorem e130_50 : mr130 S P 50 L st sh M c s = (q_isA (q_gv L 0) ∧ mr130 S P 51 L (q_gv L 0 :: st) sh M c s) := (propext (mv_R_iff (i := .aload_n 0) (len := 1) (ax := []) (by decide +kernel))).trans (q_ldA_eq (K := fun st => mr130 S P 51 L st sh M c s))
theorem e130_51 {a : Nat} : mr130 S P 51 L (.ref a :: st) sh M c s = (mv_kgf sh M a 4 1 (mr130 S P) 54 L st c s) := propext (mv_R_iff (i := .getfield 19) (len := 3) (ax := [524, 0, 4, 1]) (by decide +kernel))
theorem e130_54 : mr130 S P 54 L st sh M c s = (q_isI (q_gv L 3) ∧ mr130 S P 55 L (q_gv L 3 :: st) sh M c s) := (propext (mv_R_iff (i := .iload_n 3) (len := 1) (ax := []) (by decide +kernel))).trans (q_ldI_eq (K := fun st => mr130 S P 55 L st sh M c s))
theorem e130_55 {v2 : Value} {v1 : Value} : mr130 S P 55 L (v2 :: v1 :: st) sh M c s = (mv_ss st ≤ 8 ∧ c ≤ 0 ∧ s ≤ 0 ∧ mv_isO sh (some v1) 1 ∧ mv_kal S 56 [v1, v2] sh M (mr130 S P) 58 L st c s) := (propext (mv_R_iff (i := .invokevirtual 170) (len := 3) (ax := [1, 56, 2, 1, 0, 0, 731, 733, 41, 109, 734]) (by decide +kernel))).trans (q_call1)
theorem e130_58 {v3 : Value} {v2 : Value} {v1 : Value} : mr130 S P 58 L (v3 :: v2 :: v1 :: st) sh M c s = (mv_ss st ≤ 8 ∧ c ≤ 0 ∧ s ≤ 0 ∧ mv_isO sh (some v1) 1 ∧ mv_kal S 60 [v1, v2, v3] sh M (mr130 S P) 61 L st c s) := (propext (mv_R_iff (i := .invokevirtual 202) (len := 3) (ax := [1, 60, 3, 1, 0, 0, 785, 712, 39, 109, 713]) (by decide +kernel))).trans (q_call1)
theorem e130_61 {y : Int32} {x : Int32} : mr130 S P 61 L (.int y :: .int x :: st) sh M c s = (mr130 S P 62 L (.int (x + y) :: st) sh M c s) := propext (mv_R_iff (i := .iadd) (len := 1) (ax := []) (by decide +kernel))
theorem e130_62 {x : Int32} : mr130 S P 62 L (.int x :: st) sh M c s = (q_hs L 2 ∧ mr130 S P 63 (L.set 2 (some (.int x))) st sh M c s) := (propext (mv_R_iff (i := .istore_n 2) (len := 1) (ax := []) (by decide +kernel))).trans (q_st_eq (K := fun L => mr130 S P 63 L st sh M c s))
theorem e130_63 : mr130 S P 63 L st sh M c s = ((q_isI (q_gv L 3) ∧ q_hs L 3) ∧ mr130 S P 66 (L.set 3 (some (q_inc (q_gv L 3) (nI 1)))) st sh M c s) := (propext (mv_R_iff (i := .iinc 3 1) (len := 3) (ax := []) (by decide +kernel))).trans (q_inc_eq (K := fun L => mr130 S P 66 L st sh M c s))
theorem e130_66 : mr130 S P 66 L st sh M c s = (mr130 S P 14 L st sh M c s) := propext (mv_R_iff (i := .goto (-52)) (len := 3) (ax := [14]) (by decide +kernel))
theorem e130_69 : mr130 S P 69 L st sh M c s = (q_isI (q_gv L 2) ∧ mr130 S P 70 L (q_gv L 2 :: st) sh M c s) := (propext (mv_R_iff (i := .iload_n 2) (len := 1) (ax := []) (by decide +kernel))).trans (q_ldI_eq (K := fun st => mr130 S P 70 L st sh M c s))
theorem e130_70 : mr130 S P 70 L st sh M c s = (mr130 S P 72 L (.int (nI 40) :: st) sh M c s) := propext (mv_R_iff (i := .bipush 40) (len := 2) (ax := []) (by decide +kernel))
theorem e130_72 {y : Int32} {x : Int32} : mr130 S P 72 L (.int y :: .int x :: st) sh M c s = (mr130 S P 73 L (.int (x + y) :: st) sh M c s) := propext (mv_R_iff (i := .iadd) (len := 1) (ax := []) (by decide +kernel))
theorem e130_73 {x : Int32} : mr130 S P 73 L [.int x] sh M c s = (mv_nr 0 x ∧ P (some (.int x)) sh M) := propext (mv_R_iff (i := .ireturn) (len := 1) (ax := [0]) (by decide +kernel))
-- 131: TurnedTablets.undo()I
def mk131 : mv_Cd := [
  (0, .aload_n 0, 1, []),
  (1, .getfield 103, 3, [530, 0, 4, 7]),
  (4, .ifCond .ne 6, 3, [10]),
  (7, .bipush (-2), 2, []),
  (9, .ireturn, 1, [0]),
  (10, .aload_n 0, 1, []),
  (11, .dup, 1, []),
  (12, .getfield 186, 3, [529, 0, 4, 6]),
  (15, .iconst 1, 1, []),
  (16, .isub, 1, []),
  (17, .putfield 186, 3, [529, 0, 4, 6, 0]),
  (20, .aload_n 0, 1, []),
  (21, .dup, 1, []),
  (22, .getfield 103, 3, [530, 0, 4, 7]),
  (25, .iconst 1, 1, []),
  (26, .isub, 1, []),
  (27, .putfield 103, 3, [530, 0, 4, 7, 0]),
  (30, .aload_n 0, 1, []),
  (31, .getfield 35, 3, [526, 0, 4, 3]),
  (34, .aload_n 0, 1, []),
  (35, .getfield 42, 3, [528, 0, 4, 5]),
  (38, .aload_n 0, 1, []),
  (39, .getfield 186, 3, [529, 0, 4, 6]),
  (42, .bipush 7, 2, []),
  (44, .iand, 1, []),
  (45, .aaload, 1, []),
  (46, .invokevirtual 189, 3, [1, 52, 2, 0, 0, 0, 683, 685, 33, 111, 686]),
  (49, .aload_n 0, 1, []),
  (50, .getfield 103, 3, [530, 0, 4, 7]),
  (53, .ireturn, 1, [0])]
def mr131 (S : Nat → mv_Sp) (P : mv_Post) : mv_Kt := mv_R mv_DF mk131 S (0, 0) P
theorem e131_0 : mr131 S P 0 L st sh M c s = (q_isA (q_gv L 0) ∧ mr131 S P 1 L (q_gv L 0 :: st) sh M c s) := (propext (mv_R_iff (i := .aload_n 0) (len := 1) (ax := []) (by decide +kernel))).trans (q_ldA_eq (K := fun st => mr131 S P 1 L st sh M c s))
theorem e131_1 {a : Nat} : mr131 S P 1 L (.ref a :: st) sh M c s = (mv_kgf sh M a 4 7 (mr131 S P) 4 L st c s) := propext (mv_R_iff (i := .getfield 103) (len := 3) (ax := [530, 0, 4, 7]) (by decide +kernel))
theorem e131_4 {x : Int32} : mr131 S P 4 L (.int x :: st) sh M c s = (if x = nI 0 then mr131 S P 7 L st sh M c s else mr131 S P 10 L st sh M c s) := (propext (mv_R_iff (i := .ifCond .ne 6) (len := 3) (ax := [10]) (by decide +kernel))).trans (q_br')
theorem e131_7 : mr131 S P 7 L st sh M c s = (mr131 S P 9 L (.int (Int32.ofInt (-2)) :: st) sh M c s) := (propext (mv_R_iff (i := .bipush (-2)) (len := 2) (ax := []) (by decide +kernel))).trans (congrArg (fun z => mr131 S P 9 L (.int z :: st) sh M c s) (by decide : (Int8.ofInt (-2)).toInt32 = Int32.ofInt (-2)))
theorem e131_9 {x : Int32} : mr131 S P 9 L [.int x] sh M c s = (mv_nr 0 x ∧ P (some (.int x)) sh M) := propext (mv_R_iff (i := .ireturn) (len := 1) (ax := [0]) (by decide +kernel))
theorem e131_10 : mr131 S P 10 L st sh M c s = (q_isA (q_gv L 0) ∧ mr131 S P 11 L (q_gv L 0 :: st) sh M c s) := (propext (mv_R_iff (i := .aload_n 0) (len := 1) (ax := []) (by decide +kernel))).trans (q_ldA_eq (K := fun st => mr131 S P 11 L st sh M c s))
theorem e131_11 {x : Int32} : mr131 S P 11 L (.int x :: st) sh M c s = (mr131 S P 12 L (.int x :: .int x :: st) sh M c s) := propext (mv_R_iff (i := .dup) (len := 1) (ax := []) (by decide +kernel))
theorem e131_11r {x : Nat} : mr131 S P 11 L (.ref x :: st) sh M c s = (mr131 S P 12 L (.ref x :: .ref x :: st) sh M c s) := propext (mv_R_iff (i := .dup) (len := 1) (ax := []) (by decide +kernel))
theorem e131_12 {a : Nat} : mr131 S P 12 L (.ref a :: st) sh M c s = (mv_kgf sh M a 4 6 (mr131 S P) 15 L st c s) := propext (mv_R_iff (i := .getfield 186) (len := 3) (ax := [529, 0, 4, 6]) (by decide +kernel))
theorem e131_15 : mr131 S P 15 L st sh M c s = (mr131 S P 16 L (.int (nI 1) :: st) sh M c s) := propext (mv_R_iff (i := .iconst 1) (len := 1) (ax := []) (by decide +kernel))
theorem e131_16 {y : Int32} {x : Int32} : mr131 S P 16 L (.int y :: .int x :: st) sh M c s = (mr131 S P 17 L (.int (x - y) :: st) sh M c s) := propext (mv_R_iff (i := .isub) (len := 1) (ax := []) (by decide +kernel))
theorem e131_17 {x : Int32} {a : Nat} : mr131 S P 17 L (.int x :: .ref a :: st) sh M c s = (True ∧ mv_kpf sh M a 4 6 x (mr131 S P) 20 L st c s) := propext (mv_R_iff (i := .putfield 186) (len := 3) (ax := [529, 0, 4, 6, 0]) (by decide +kernel))
theorem e131_20 : mr131 S P 20 L st sh M c s = (q_isA (q_gv L 0) ∧ mr131 S P 21 L (q_gv L 0 :: st) sh M c s) := (propext (mv_R_iff (i := .aload_n 0) (len := 1) (ax := []) (by decide +kernel))).trans (q_ldA_eq (K := fun st => mr131 S P 21 L st sh M c s))
theorem e131_21 {x : Int32} : mr131 S P 21 L (.int x :: st) sh M c s = (mr131 S P 22 L (.int x :: .int x :: st) sh M c s) := propext (mv_R_iff (i := .dup) (len := 1) (ax := []) (by decide +kernel))
theorem e131_21r {x : Nat} : mr131 S P 21 L (.ref x :: st) sh M c s = (mr131 S P 22 L (.ref x :: .ref x :: st) sh M c s) := propext (mv_R_iff (i := .dup) (len := 1) (ax := []) (by decide +kernel))
theorem e131_22 {a : Nat} : mr131 S P 22 L (.ref a :: st) sh M c s = (mv_kgf sh M a 4 7 (mr131 S P) 25 L st c s) := propext (mv_R_iff (i := .getfield 103) (len := 3) (ax := [530, 0, 4, 7]) (by decide +kernel))
theorem e131_25 : mr131 S P 25 L st sh M c s = (mr131 S P 26 L (.int (nI 1) :: st) sh M c s) := propext (mv_R_iff (i := .iconst 1) (len := 1) (ax := []) (by decide +kernel))
theorem e131_26 {y : Int32} {x : Int32} : mr131 S P 26 L (.int y :: .int x :: st) sh M c s = (mr131 S P 27 L (.int (x - y) :: st) sh M c s) := propext (mv_R_iff (i := .isub) (len := 1) (ax := []) (by decide +kernel))
theorem e131_27 {x : Int32} {a : Nat} : mr131 S P 27 L (.int x :: .ref a :: st) sh M c s = (True ∧ mv_kpf sh M a 4 7 x (mr131 S P) 30 L st c s) := propext (mv_R_iff (i := .putfield 103) (len := 3) (ax := [530, 0, 4, 7, 0]) (by decide +kernel))
theorem e131_30 : mr131 S P 30 L st sh M c s = (q_isA (q_gv L 0) ∧ mr131 S P 31 L (q_gv L 0 :: st) sh M c s) := (propext (mv_R_iff (i := .aload_n 0) (len := 1) (ax := []) (by decide +kernel))).trans (q_ldA_eq (K := fun st => mr131 S P 31 L st sh M c s))
theorem e131_31 {a : Nat} : mr131 S P 31 L (.ref a :: st) sh M c s = (mv_kgf sh M a 4 3 (mr131 S P) 34 L st c s) := propext (mv_R_iff (i := .getfield 35) (len := 3) (ax := [526, 0, 4, 3]) (by decide +kernel))
theorem e131_34 : mr131 S P 34 L st sh M c s = (q_isA (q_gv L 0) ∧ mr131 S P 35 L (q_gv L 0 :: st) sh M c s) := (propext (mv_R_iff (i := .aload_n 0) (len := 1) (ax := []) (by decide +kernel))).trans (q_ldA_eq (K := fun st => mr131 S P 35 L st sh M c s))
theorem e131_35 {a : Nat} : mr131 S P 35 L (.ref a :: st) sh M c s = (mv_kgf sh M a 4 5 (mr131 S P) 38 L st c s) := propext (mv_R_iff (i := .getfield 42) (len := 3) (ax := [528, 0, 4, 5]) (by decide +kernel))
theorem e131_38 : mr131 S P 38 L st sh M c s = (q_isA (q_gv L 0) ∧ mr131 S P 39 L (q_gv L 0 :: st) sh M c s) := (propext (mv_R_iff (i := .aload_n 0) (len := 1) (ax := []) (by decide +kernel))).trans (q_ldA_eq (K := fun st => mr131 S P 39 L st sh M c s))
theorem e131_39 {a : Nat} : mr131 S P 39 L (.ref a :: st) sh M c s = (mv_kgf sh M a 4 6 (mr131 S P) 42 L st c s) := propext (mv_R_iff (i := .getfield 186) (len := 3) (ax := [529, 0, 4, 6]) (by decide +kernel))
theorem e131_42 : mr131 S P 42 L st sh M c s = (mr131 S P 44 L (.int (nI 7) :: st) sh M c s) := propext (mv_R_iff (i := .bipush 7) (len := 2) (ax := []) (by decide +kernel))
theorem e131_44 {y : Int32} {x : Int32} : mr131 S P 44 L (.int y :: .int x :: st) sh M c s = (mr131 S P 45 L (.int (x &&& y) :: st) sh M c s) := propext (mv_R_iff (i := .iand) (len := 1) (ax := []) (by decide +kernel))
theorem e131_45 {i : Int32} {a : Nat} : mr131 S P 45 L (.int i :: .ref a :: st) sh M c s = (mv_kal0 sh M a i (mr131 S P) 46 L st c s) := propext (mv_R_iff (i := .aaload) (len := 1) (ax := []) (by decide +kernel))
theorem e131_46 {v2 : Value} {v1 : Value} : mr131 S P 46 L (v2 :: v1 :: st) sh M c s = (mv_ss st ≤ 8 ∧ c ≤ 0 ∧ s ≤ 0 ∧ mv_isO sh (some v1) 0 ∧ mv_kal S 52 [v1, v2] sh M (mr131 S P) 49 L st c s) := (propext (mv_R_iff (i := .invokevirtual 189) (len := 3) (ax := [1, 52, 2, 0, 0, 0, 683, 685, 33, 111, 686]) (by decide +kernel))).trans (q_call1)
theorem e131_49 : mr131 S P 49 L st sh M c s = (q_isA (q_gv L 0) ∧ mr131 S P 50 L (q_gv L 0 :: st) sh M c s) := (propext (mv_R_iff (i := .aload_n 0) (len := 1) (ax := []) (by decide +kernel))).trans (q_ldA_eq (K := fun st => mr131 S P 50 L st sh M c s))
theorem e131_50 {a : Nat} : mr131 S P 50 L (.ref a :: st) sh M c s = (mv_kgf sh M a 4 7 (mr131 S P) 53 L st c s) := propext (mv_R_iff (i := .getfield 103) (len := 3) (ax := [530, 0, 4, 7]) (by decide +kernel))
theorem e131_53 {x : Int32} : mr131 S P 53 L [.int x] sh M c s = (mv_nr 0 x ∧ P (some (.int x)) sh M) := propext (mv_R_iff (i := .ireturn) (len := 1) (ax := [0]) (by decide +kernel))
-- 133: TurnedTablets.unweave()I
def mk133 : mv_Cd := [
  (0, .aload_n 0, 1, []),
  (1, .getfield 35, 3, [526, 0, 4, 3]),
  (4, .getfield 148, 3, [239, 1, 0, 2]),
  (7, .ifCond .ne 6, 3, [13]),
  (10, .bipush (-2), 2, []),
  (12, .ireturn, 1, [0]),
  (13, .aload_n 0, 1, []),
  (14, .invokevirtual 160, 3, [0, 53, 1, 4, 0, 0, 0, 679, 681, 32, 104, 682]),
  (17, .aload_n 0, 1, []),
  (18, .getfield 35, 3, [526, 0, 4, 3]),
  (21, .invokevirtual 173, 3, [1, 132, 1, 0, 0, 0, 739, 741, 42, 111, 742]),
  (24, .aload_n 0, 1, []),
  (25, .getfield 35, 3, [526, 0, 4, 3]),
  (28, .getfield 148, 3, [239, 1, 0, 2]),
  (31, .ireturn, 1, [0])]
def mr133 (S : Nat → mv_Sp) (P : mv_Post) : mv_Kt := mv_R mv_DF mk133 S (0, 0) P
theorem e133_0 : mr133 S P 0 L st sh M c s = (q_isA (q_gv L 0) ∧ mr133 S P 1 L (q_gv L 0 :: st) sh M c s) := (propext (mv_R_iff (i := .aload_n 0) (len := 1) (ax := []) (by decide +kernel))).trans (q_ldA_eq (K := fun st => mr133 S P 1 L st sh M c s))
theorem e133_1 {a : Nat} : mr133 S P 1 L (.ref a :: st) sh M c s = (mv_kgf sh M a 4 3 (mr133 S P) 4 L st c s) := propext (mv_R_iff (i := .getfield 35) (len := 3) (ax := [526, 0, 4, 3]) (by decide +kernel))
theorem e133_4 {a : Nat} : mr133 S P 4 L (.ref a :: st) sh M c s = (mv_kgf sh M a 0 2 (mr133 S P) 7 L st c s) := propext (mv_R_iff (i := .getfield 148) (len := 3) (ax := [239, 1, 0, 2]) (by decide +kernel))
theorem e133_7 {x : Int32} : mr133 S P 7 L (.int x :: st) sh M c s = (if x = nI 0 then mr133 S P 10 L st sh M c s else mr133 S P 13 L st sh M c s) := (propext (mv_R_iff (i := .ifCond .ne 6) (len := 3) (ax := [13]) (by decide +kernel))).trans (q_br')
theorem e133_10 : mr133 S P 10 L st sh M c s = (mr133 S P 12 L (.int (Int32.ofInt (-2)) :: st) sh M c s) := (propext (mv_R_iff (i := .bipush (-2)) (len := 2) (ax := []) (by decide +kernel))).trans (congrArg (fun z => mr133 S P 12 L (.int z :: st) sh M c s) (by decide : (Int8.ofInt (-2)).toInt32 = Int32.ofInt (-2)))
theorem e133_12 {x : Int32} : mr133 S P 12 L [.int x] sh M c s = (mv_nr 0 x ∧ P (some (.int x)) sh M) := propext (mv_R_iff (i := .ireturn) (len := 1) (ax := [0]) (by decide +kernel))
theorem e133_13 : mr133 S P 13 L st sh M c s = (q_isA (q_gv L 0) ∧ mr133 S P 14 L (q_gv L 0 :: st) sh M c s) := (propext (mv_R_iff (i := .aload_n 0) (len := 1) (ax := []) (by decide +kernel))).trans (q_ldA_eq (K := fun st => mr133 S P 14 L st sh M c s))
theorem e133_14 {v1 : Value} : mr133 S P 14 L (v1 :: st) sh M c s = (mv_ss st ≤ 8 ∧ c ≤ 0 ∧ s ≤ 0 ∧ mv_isO sh (some v1) 4 ∧ mv_kal S 53 [v1] sh M (mr133 S P) 17 L st c s) := (propext (mv_R_iff (i := .invokevirtual 160) (len := 3) (ax := [0, 53, 1, 4, 0, 0, 0, 679, 681, 32, 104, 682]) (by decide +kernel))).trans (q_call0)
theorem e133_17 : mr133 S P 17 L st sh M c s = (q_isA (q_gv L 0) ∧ mr133 S P 18 L (q_gv L 0 :: st) sh M c s) := (propext (mv_R_iff (i := .aload_n 0) (len := 1) (ax := []) (by decide +kernel))).trans (q_ldA_eq (K := fun st => mr133 S P 18 L st sh M c s))
theorem e133_18 {a : Nat} : mr133 S P 18 L (.ref a :: st) sh M c s = (mv_kgf sh M a 4 3 (mr133 S P) 21 L st c s) := propext (mv_R_iff (i := .getfield 35) (len := 3) (ax := [526, 0, 4, 3]) (by decide +kernel))
theorem e133_21 {v1 : Value} : mr133 S P 21 L (v1 :: st) sh M c s = (mv_ss st ≤ 8 ∧ c ≤ 0 ∧ s ≤ 0 ∧ mv_isO sh (some v1) 0 ∧ mv_kal S 132 [v1] sh M (mr133 S P) 24 L st c s) := (propext (mv_R_iff (i := .invokevirtual 173) (len := 3) (ax := [1, 132, 1, 0, 0, 0, 739, 741, 42, 111, 742]) (by decide +kernel))).trans (q_call1)
theorem e133_24 : mr133 S P 24 L st sh M c s = (q_isA (q_gv L 0) ∧ mr133 S P 25 L (q_gv L 0 :: st) sh M c s) := (propext (mv_R_iff (i := .aload_n 0) (len := 1) (ax := []) (by decide +kernel))).trans (q_ldA_eq (K := fun st => mr133 S P 25 L st sh M c s))
theorem e133_25 {a : Nat} : mr133 S P 25 L (.ref a :: st) sh M c s = (mv_kgf sh M a 4 3 (mr133 S P) 28 L st c s) := propext (mv_R_iff (i := .getfield 35) (len := 3) (ax := [526, 0, 4, 3]) (by decide +kernel))
theorem e133_28 {a : Nat} : mr133 S P 28 L (.ref a :: st) sh M c s = (mv_kgf sh M a 0 2 (mr133 S P) 31 L st c s) := propext (mv_R_iff (i := .getfield 148) (len := 3) (ax := [239, 1, 0, 2]) (by decide +kernel))
theorem e133_31 {x : Int32} : mr133 S P 31 L [.int x] sh M c s = (mv_nr 0 x ∧ P (some (.int x)) sh M) := propext (mv_R_iff (i := .ireturn) (len := 1) (ax := [0]) (by decide +kernel))
-- 136: TurnedTablets.ways()I
def mk136 : mv_Cd := [
  (0, .aload_n 0, 1, []),
  (1, .getfield 56, 3, [535, 0, 4, 12]),
  (4, .aload_n 0, 1, []),
  (5, .getfield 19, 3, [524, 0, 4, 1]),
  (8, .aload_n 0, 1, []),
  (9, .getfield 35, 3, [526, 0, 4, 3]),
  (12, .invokevirtual 139, 3, [1, 66, 1, 0, 0, 0, 644, 646, 27, 111, 647]),
  (15, .aload_n 0, 1, []),
  (16, .getfield 49, 3, [533, 0, 4, 10]),
  (19, .aload_n 0, 1, []),
  (20, .getfield 100, 3, [534, 0, 4, 11]),
  (23, .invokevirtual 240, 3, [1, 135, 5, 3, 0, 0, 894, 896, 61, 112, 897]),
  (26, .ireturn, 1, [0])]
def mr136 (S : Nat → mv_Sp) (P : mv_Post) : mv_Kt := mv_R mv_DF mk136 S (0, 0) P
theorem e136_0 : mr136 S P 0 L st sh M c s = (q_isA (q_gv L 0) ∧ mr136 S P 1 L (q_gv L 0 :: st) sh M c s) := (propext (mv_R_iff (i := .aload_n 0) (len := 1) (ax := []) (by decide +kernel))).trans (q_ldA_eq (K := fun st => mr136 S P 1 L st sh M c s))
theorem e136_1 {a : Nat} : mr136 S P 1 L (.ref a :: st) sh M c s = (mv_kgf sh M a 4 12 (mr136 S P) 4 L st c s) := propext (mv_R_iff (i := .getfield 56) (len := 3) (ax := [535, 0, 4, 12]) (by decide +kernel))
theorem e136_4 : mr136 S P 4 L st sh M c s = (q_isA (q_gv L 0) ∧ mr136 S P 5 L (q_gv L 0 :: st) sh M c s) := (propext (mv_R_iff (i := .aload_n 0) (len := 1) (ax := []) (by decide +kernel))).trans (q_ldA_eq (K := fun st => mr136 S P 5 L st sh M c s))
theorem e136_5 {a : Nat} : mr136 S P 5 L (.ref a :: st) sh M c s = (mv_kgf sh M a 4 1 (mr136 S P) 8 L st c s) := propext (mv_R_iff (i := .getfield 19) (len := 3) (ax := [524, 0, 4, 1]) (by decide +kernel))
theorem e136_8 : mr136 S P 8 L st sh M c s = (q_isA (q_gv L 0) ∧ mr136 S P 9 L (q_gv L 0 :: st) sh M c s) := (propext (mv_R_iff (i := .aload_n 0) (len := 1) (ax := []) (by decide +kernel))).trans (q_ldA_eq (K := fun st => mr136 S P 9 L st sh M c s))
theorem e136_9 {a : Nat} : mr136 S P 9 L (.ref a :: st) sh M c s = (mv_kgf sh M a 4 3 (mr136 S P) 12 L st c s) := propext (mv_R_iff (i := .getfield 35) (len := 3) (ax := [526, 0, 4, 3]) (by decide +kernel))
theorem e136_12 {v1 : Value} : mr136 S P 12 L (v1 :: st) sh M c s = (mv_ss st ≤ 8 ∧ c ≤ 0 ∧ s ≤ 0 ∧ mv_isO sh (some v1) 0 ∧ mv_kal S 66 [v1] sh M (mr136 S P) 15 L st c s) := (propext (mv_R_iff (i := .invokevirtual 139) (len := 3) (ax := [1, 66, 1, 0, 0, 0, 644, 646, 27, 111, 647]) (by decide +kernel))).trans (q_call1)
theorem e136_15 : mr136 S P 15 L st sh M c s = (q_isA (q_gv L 0) ∧ mr136 S P 16 L (q_gv L 0 :: st) sh M c s) := (propext (mv_R_iff (i := .aload_n 0) (len := 1) (ax := []) (by decide +kernel))).trans (q_ldA_eq (K := fun st => mr136 S P 16 L st sh M c s))
theorem e136_16 {a : Nat} : mr136 S P 16 L (.ref a :: st) sh M c s = (mv_kgf sh M a 4 10 (mr136 S P) 19 L st c s) := propext (mv_R_iff (i := .getfield 49) (len := 3) (ax := [533, 0, 4, 10]) (by decide +kernel))
theorem e136_19 : mr136 S P 19 L st sh M c s = (q_isA (q_gv L 0) ∧ mr136 S P 20 L (q_gv L 0 :: st) sh M c s) := (propext (mv_R_iff (i := .aload_n 0) (len := 1) (ax := []) (by decide +kernel))).trans (q_ldA_eq (K := fun st => mr136 S P 20 L st sh M c s))
theorem e136_20 {a : Nat} : mr136 S P 20 L (.ref a :: st) sh M c s = (mv_kgf sh M a 4 11 (mr136 S P) 23 L st c s) := propext (mv_R_iff (i := .getfield 100) (len := 3) (ax := [534, 0, 4, 11]) (by decide +kernel))
theorem e136_23 {v5 : Value} {v4 : Value} {v3 : Value} {v2 : Value} {v1 : Value} : mr136 S P 23 L (v5 :: v4 :: v3 :: v2 :: v1 :: st) sh M c s = (mv_ss st ≤ 8 ∧ c ≤ 0 ∧ s ≤ 0 ∧ mv_isO sh (some v1) 3 ∧ mv_kal S 135 [v1, v2, v3, v4, v5] sh M (mr136 S P) 26 L st c s) := (propext (mv_R_iff (i := .invokevirtual 240) (len := 3) (ax := [1, 135, 5, 3, 0, 0, 894, 896, 61, 112, 897]) (by decide +kernel))).trans (q_call1)
theorem e136_26 {x : Int32} : mr136 S P 26 L [.int x] sh M c s = (mv_nr 0 x ∧ P (some (.int x)) sh M) := propext (mv_R_iff (i := .ireturn) (len := 1) (ax := [0]) (by decide +kernel))
-- 115: TurnedTablets.lies()I
def mk115 : mv_Cd := [
  (0, .aload_n 0, 1, []),
  (1, .getfield 56, 3, [535, 0, 4, 12]),
  (4, .aload_n 0, 1, []),
  (5, .getfield 19, 3, [524, 0, 4, 1]),
  (8, .aload_n 0, 1, []),
  (9, .getfield 49, 3, [533, 0, 4, 10]),
  (12, .aload_n 0, 1, []),
  (13, .getfield 100, 3, [534, 0, 4, 11]),
  (16, .invokevirtual 244, 3, [1, 114, 4, 3, 0, 0, 915, 917, 65, 112, 918]),
  (19, .ireturn, 1, [0])]
def mr115 (S : Nat → mv_Sp) (P : mv_Post) : mv_Kt := mv_R mv_DF mk115 S (0, 0) P
theorem e115_0 : mr115 S P 0 L st sh M c s = (q_isA (q_gv L 0) ∧ mr115 S P 1 L (q_gv L 0 :: st) sh M c s) := (propext (mv_R_iff (i := .aload_n 0) (len := 1) (ax := []) (by decide +kernel))).trans (q_ldA_eq (K := fun st => mr115 S P 1 L st sh M c s))
theorem e115_1 {a : Nat} : mr115 S P 1 L (.ref a :: st) sh M c s = (mv_kgf sh M a 4 12 (mr115 S P) 4 L st c s) := propext (mv_R_iff (i := .getfield 56) (len := 3) (ax := [535, 0, 4, 12]) (by decide +kernel))
theorem e115_4 : mr115 S P 4 L st sh M c s = (q_isA (q_gv L 0) ∧ mr115 S P 5 L (q_gv L 0 :: st) sh M c s) := (propext (mv_R_iff (i := .aload_n 0) (len := 1) (ax := []) (by decide +kernel))).trans (q_ldA_eq (K := fun st => mr115 S P 5 L st sh M c s))
theorem e115_5 {a : Nat} : mr115 S P 5 L (.ref a :: st) sh M c s = (mv_kgf sh M a 4 1 (mr115 S P) 8 L st c s) := propext (mv_R_iff (i := .getfield 19) (len := 3) (ax := [524, 0, 4, 1]) (by decide +kernel))
theorem e115_8 : mr115 S P 8 L st sh M c s = (q_isA (q_gv L 0) ∧ mr115 S P 9 L (q_gv L 0 :: st) sh M c s) := (propext (mv_R_iff (i := .aload_n 0) (len := 1) (ax := []) (by decide +kernel))).trans (q_ldA_eq (K := fun st => mr115 S P 9 L st sh M c s))
theorem e115_9 {a : Nat} : mr115 S P 9 L (.ref a :: st) sh M c s = (mv_kgf sh M a 4 10 (mr115 S P) 12 L st c s) := propext (mv_R_iff (i := .getfield 49) (len := 3) (ax := [533, 0, 4, 10]) (by decide +kernel))
theorem e115_12 : mr115 S P 12 L st sh M c s = (q_isA (q_gv L 0) ∧ mr115 S P 13 L (q_gv L 0 :: st) sh M c s) := (propext (mv_R_iff (i := .aload_n 0) (len := 1) (ax := []) (by decide +kernel))).trans (q_ldA_eq (K := fun st => mr115 S P 13 L st sh M c s))
theorem e115_13 {a : Nat} : mr115 S P 13 L (.ref a :: st) sh M c s = (mv_kgf sh M a 4 11 (mr115 S P) 16 L st c s) := propext (mv_R_iff (i := .getfield 100) (len := 3) (ax := [534, 0, 4, 11]) (by decide +kernel))
theorem e115_16 {v4 : Value} {v3 : Value} {v2 : Value} {v1 : Value} : mr115 S P 16 L (v4 :: v3 :: v2 :: v1 :: st) sh M c s = (mv_ss st ≤ 8 ∧ c ≤ 0 ∧ s ≤ 0 ∧ mv_isO sh (some v1) 3 ∧ mv_kal S 114 [v1, v2, v3, v4] sh M (mr115 S P) 19 L st c s) := (propext (mv_R_iff (i := .invokevirtual 244) (len := 3) (ax := [1, 114, 4, 3, 0, 0, 915, 917, 65, 112, 918]) (by decide +kernel))).trans (q_call1)
theorem e115_19 {x : Int32} : mr115 S P 19 L [.int x] sh M c s = (mv_nr 0 x ∧ P (some (.int x)) sh M) := propext (mv_R_iff (i := .ireturn) (len := 1) (ax := [0]) (by decide +kernel))
-- 118: TurnedTablets.needs(I)I
def mk118 : mv_Cd := [
  (0, .aload_n 0, 1, []),
  (1, .getfield 19, 3, [524, 0, 4, 1]),
  (4, .iload_n 1, 1, []),
  (5, .invokevirtual 208, 3, [1, 73, 2, 1, 0, 0, 795, 797, 44, 109, 798]),
  (8, .ifCond .ne 5, 3, [13]),
  (11, .iconst (-1), 1, []),
  (12, .ireturn, 1, [0]),
  (13, .aload_n 0, 1, []),
  (14, .getfield 35, 3, [526, 0, 4, 3]),
  (17, .invokevirtual 139, 3, [1, 66, 1, 0, 0, 0, 644, 646, 27, 111, 647]),
  (20, .istore_n 2, 1, []),
  (21, .aload_n 0, 1, []),
  (22, .getfield 56, 3, [535, 0, 4, 12]),
  (25, .aload_n 0, 1, []),
  (26, .getfield 19, 3, [524, 0, 4, 1]),
  (29, .iload_n 2, 1, []),
  (30, .aload_n 0, 1, []),
  (31, .invokevirtual 220, 3, [0, 72, 1, 4, 0, 0, 0, 847, 849, 55, 104, 850]),
  (34, .iload_n 1, 1, []),
  (35, .invokevirtual 231, 3, [1, 116, 5, 3, 0, 0, 871, 873, 60, 112, 874]),
  (38, .ifCond .ne 6, 3, [44]),
  (41, .bipush (-4), 2, []),
  (43, .ireturn, 1, [0]),
  (44, .iconst 0, 1, []),
  (45, .istore_n 3, 1, []),
  (46, .iload_n 3, 1, []),
  (47, .aload_n 0, 1, []),
  (48, .getfield 19, 3, [524, 0, 4, 1]),
  (51, .getfield 90, 3, [174, 1, 1, 1]),
  (54, .if_icmp .gt 57, 3, [111]),
  (57, .iconst 0, 1, []),
  (58, .istore 4, 2, []),
  (60, .iload 4, 2, []),
  (62, .aload_n 0, 1, []),
  (63, .invokevirtual 220, 3, [0, 72, 1, 4, 0, 0, 0, 847, 849, 55, 104, 850]),
  (66, .if_icmp .gt 39, 3, [105]),
  (69, .iload 4, 2, []),
  (71, .invokestatic 235, 3, [3, 117, 1, 0, 0, 0, 0, 876, 877, 120, 878]),
  (74, .iload_n 3, 1, []),
  (75, .if_icmp .ne 24, 3, [99]),
  (78, .aload_n 0, 1, []),
  (79, .getfield 56, 3, [535, 0, 4, 12]),
  (82, .aload_n 0, 1, []),
  (83, .getfield 19, 3, [524, 0, 4, 1]),
  (86, .iload_n 2, 1, []),
  (87, .iload 4, 2, []),
  (89, .iload_n 1, 1, []),
  (90, .invokevirtual 231, 3, [1, 116, 5, 3, 0, 0, 871, 873, 60, 112, 874]),
  (93, .ifCond .eq 6, 3, [99]),
  (96, .iload 4, 2, []),
  (98, .ireturn, 1, [0]),
  (99, .iinc 4 1, 3, []),
  (102, .goto (-42), 3, [60]),
  (105, .iinc 3 1, 3, []),
  (108, .goto (-62), 3, [46]),
  (111, .bipush (-4), 2, []),
  (113, .ireturn, 1, [0])]
def mr118 (S : Nat → mv_Sp) (P : mv_Post) : mv_Kt := mv_R mv_DF mk118 S (0, 0) P
theorem e118_0 : mr118 S P 0 L st sh M c s = (q_isA (q_gv L 0) ∧ mr118 S P 1 L (q_gv L 0 :: st) sh M c s) := (propext (mv_R_iff (i := .aload_n 0) (len := 1) (ax := []) (by decide +kernel))).trans (q_ldA_eq (K := fun st => mr118 S P 1 L st sh M c s))
theorem e118_1 {a : Nat} : mr118 S P 1 L (.ref a :: st) sh M c s = (mv_kgf sh M a 4 1 (mr118 S P) 4 L st c s) := propext (mv_R_iff (i := .getfield 19) (len := 3) (ax := [524, 0, 4, 1]) (by decide +kernel))
theorem e118_4 : mr118 S P 4 L st sh M c s = (q_isI (q_gv L 1) ∧ mr118 S P 5 L (q_gv L 1 :: st) sh M c s) := (propext (mv_R_iff (i := .iload_n 1) (len := 1) (ax := []) (by decide +kernel))).trans (q_ldI_eq (K := fun st => mr118 S P 5 L st sh M c s))
theorem e118_5 {v2 : Value} {v1 : Value} : mr118 S P 5 L (v2 :: v1 :: st) sh M c s = (mv_ss st ≤ 8 ∧ c ≤ 0 ∧ s ≤ 0 ∧ mv_isO sh (some v1) 1 ∧ mv_kal S 73 [v1, v2] sh M (mr118 S P) 8 L st c s) := (propext (mv_R_iff (i := .invokevirtual 208) (len := 3) (ax := [1, 73, 2, 1, 0, 0, 795, 797, 44, 109, 798]) (by decide +kernel))).trans (q_call1)
theorem e118_8 {x : Int32} : mr118 S P 8 L (.int x :: st) sh M c s = (if x = nI 0 then mr118 S P 11 L st sh M c s else mr118 S P 13 L st sh M c s) := (propext (mv_R_iff (i := .ifCond .ne 5) (len := 3) (ax := [13]) (by decide +kernel))).trans (q_br')
theorem e118_11 : mr118 S P 11 L st sh M c s = (mr118 S P 12 L (.int (Int32.ofInt (-1)) :: st) sh M c s) := propext (mv_R_iff (i := .iconst (-1)) (len := 1) (ax := []) (by decide +kernel))
theorem e118_12 {x : Int32} : mr118 S P 12 L [.int x] sh M c s = (mv_nr 0 x ∧ P (some (.int x)) sh M) := propext (mv_R_iff (i := .ireturn) (len := 1) (ax := [0]) (by decide +kernel))
theorem e118_13 : mr118 S P 13 L st sh M c s = (q_isA (q_gv L 0) ∧ mr118 S P 14 L (q_gv L 0 :: st) sh M c s) := (propext (mv_R_iff (i := .aload_n 0) (len := 1) (ax := []) (by decide +kernel))).trans (q_ldA_eq (K := fun st => mr118 S P 14 L st sh M c s))
theorem e118_14 {a : Nat} : mr118 S P 14 L (.ref a :: st) sh M c s = (mv_kgf sh M a 4 3 (mr118 S P) 17 L st c s) := propext (mv_R_iff (i := .getfield 35) (len := 3) (ax := [526, 0, 4, 3]) (by decide +kernel))
theorem e118_17 {v1 : Value} : mr118 S P 17 L (v1 :: st) sh M c s = (mv_ss st ≤ 8 ∧ c ≤ 0 ∧ s ≤ 0 ∧ mv_isO sh (some v1) 0 ∧ mv_kal S 66 [v1] sh M (mr118 S P) 20 L st c s) := (propext (mv_R_iff (i := .invokevirtual 139) (len := 3) (ax := [1, 66, 1, 0, 0, 0, 644, 646, 27, 111, 647]) (by decide +kernel))).trans (q_call1)
theorem e118_20 {x : Int32} : mr118 S P 20 L (.int x :: st) sh M c s = (q_hs L 2 ∧ mr118 S P 21 (L.set 2 (some (.int x))) st sh M c s) := (propext (mv_R_iff (i := .istore_n 2) (len := 1) (ax := []) (by decide +kernel))).trans (q_st_eq (K := fun L => mr118 S P 21 L st sh M c s))
theorem e118_21 : mr118 S P 21 L st sh M c s = (q_isA (q_gv L 0) ∧ mr118 S P 22 L (q_gv L 0 :: st) sh M c s) := (propext (mv_R_iff (i := .aload_n 0) (len := 1) (ax := []) (by decide +kernel))).trans (q_ldA_eq (K := fun st => mr118 S P 22 L st sh M c s))
theorem e118_22 {a : Nat} : mr118 S P 22 L (.ref a :: st) sh M c s = (mv_kgf sh M a 4 12 (mr118 S P) 25 L st c s) := propext (mv_R_iff (i := .getfield 56) (len := 3) (ax := [535, 0, 4, 12]) (by decide +kernel))
theorem e118_25 : mr118 S P 25 L st sh M c s = (q_isA (q_gv L 0) ∧ mr118 S P 26 L (q_gv L 0 :: st) sh M c s) := (propext (mv_R_iff (i := .aload_n 0) (len := 1) (ax := []) (by decide +kernel))).trans (q_ldA_eq (K := fun st => mr118 S P 26 L st sh M c s))
theorem e118_26 {a : Nat} : mr118 S P 26 L (.ref a :: st) sh M c s = (mv_kgf sh M a 4 1 (mr118 S P) 29 L st c s) := propext (mv_R_iff (i := .getfield 19) (len := 3) (ax := [524, 0, 4, 1]) (by decide +kernel))
theorem e118_29 : mr118 S P 29 L st sh M c s = (q_isI (q_gv L 2) ∧ mr118 S P 30 L (q_gv L 2 :: st) sh M c s) := (propext (mv_R_iff (i := .iload_n 2) (len := 1) (ax := []) (by decide +kernel))).trans (q_ldI_eq (K := fun st => mr118 S P 30 L st sh M c s))
theorem e118_30 : mr118 S P 30 L st sh M c s = (q_isA (q_gv L 0) ∧ mr118 S P 31 L (q_gv L 0 :: st) sh M c s) := (propext (mv_R_iff (i := .aload_n 0) (len := 1) (ax := []) (by decide +kernel))).trans (q_ldA_eq (K := fun st => mr118 S P 31 L st sh M c s))
theorem e118_31 {v1 : Value} : mr118 S P 31 L (v1 :: st) sh M c s = (mv_ss st ≤ 8 ∧ c ≤ 0 ∧ s ≤ 0 ∧ mv_isO sh (some v1) 4 ∧ mv_kal S 72 [v1] sh M (mr118 S P) 34 L st c s) := (propext (mv_R_iff (i := .invokevirtual 220) (len := 3) (ax := [0, 72, 1, 4, 0, 0, 0, 847, 849, 55, 104, 850]) (by decide +kernel))).trans (q_call0)
theorem e118_34 : mr118 S P 34 L st sh M c s = (q_isI (q_gv L 1) ∧ mr118 S P 35 L (q_gv L 1 :: st) sh M c s) := (propext (mv_R_iff (i := .iload_n 1) (len := 1) (ax := []) (by decide +kernel))).trans (q_ldI_eq (K := fun st => mr118 S P 35 L st sh M c s))
theorem e118_35 {v5 : Value} {v4 : Value} {v3 : Value} {v2 : Value} {v1 : Value} : mr118 S P 35 L (v5 :: v4 :: v3 :: v2 :: v1 :: st) sh M c s = (mv_ss st ≤ 8 ∧ c ≤ 0 ∧ s ≤ 0 ∧ mv_isO sh (some v1) 3 ∧ mv_kal S 116 [v1, v2, v3, v4, v5] sh M (mr118 S P) 38 L st c s) := (propext (mv_R_iff (i := .invokevirtual 231) (len := 3) (ax := [1, 116, 5, 3, 0, 0, 871, 873, 60, 112, 874]) (by decide +kernel))).trans (q_call1)
theorem e118_38 {x : Int32} : mr118 S P 38 L (.int x :: st) sh M c s = (if x = nI 0 then mr118 S P 41 L st sh M c s else mr118 S P 44 L st sh M c s) := (propext (mv_R_iff (i := .ifCond .ne 6) (len := 3) (ax := [44]) (by decide +kernel))).trans (q_br')
theorem e118_41 : mr118 S P 41 L st sh M c s = (mr118 S P 43 L (.int (Int32.ofInt (-4)) :: st) sh M c s) := (propext (mv_R_iff (i := .bipush (-4)) (len := 2) (ax := []) (by decide +kernel))).trans (congrArg (fun z => mr118 S P 43 L (.int z :: st) sh M c s) (by decide : (Int8.ofInt (-4)).toInt32 = Int32.ofInt (-4)))
theorem e118_43 {x : Int32} : mr118 S P 43 L [.int x] sh M c s = (mv_nr 0 x ∧ P (some (.int x)) sh M) := propext (mv_R_iff (i := .ireturn) (len := 1) (ax := [0]) (by decide +kernel))
theorem e118_44 : mr118 S P 44 L st sh M c s = (mr118 S P 45 L (.int (nI 0) :: st) sh M c s) := propext (mv_R_iff (i := .iconst 0) (len := 1) (ax := []) (by decide +kernel))
theorem e118_45 {x : Int32} : mr118 S P 45 L (.int x :: st) sh M c s = (q_hs L 3 ∧ mr118 S P 46 (L.set 3 (some (.int x))) st sh M c s) := (propext (mv_R_iff (i := .istore_n 3) (len := 1) (ax := []) (by decide +kernel))).trans (q_st_eq (K := fun L => mr118 S P 46 L st sh M c s))
theorem e118_46 : mr118 S P 46 L st sh M c s = (q_isI (q_gv L 3) ∧ mr118 S P 47 L (q_gv L 3 :: st) sh M c s) := (propext (mv_R_iff (i := .iload_n 3) (len := 1) (ax := []) (by decide +kernel))).trans (q_ldI_eq (K := fun st => mr118 S P 47 L st sh M c s))
theorem e118_47 : mr118 S P 47 L st sh M c s = (q_isA (q_gv L 0) ∧ mr118 S P 48 L (q_gv L 0 :: st) sh M c s) := (propext (mv_R_iff (i := .aload_n 0) (len := 1) (ax := []) (by decide +kernel))).trans (q_ldA_eq (K := fun st => mr118 S P 48 L st sh M c s))
theorem e118_48 {a : Nat} : mr118 S P 48 L (.ref a :: st) sh M c s = (mv_kgf sh M a 4 1 (mr118 S P) 51 L st c s) := propext (mv_R_iff (i := .getfield 19) (len := 3) (ax := [524, 0, 4, 1]) (by decide +kernel))
theorem e118_51 {a : Nat} : mr118 S P 51 L (.ref a :: st) sh M c s = (mv_kgf sh M a 1 1 (mr118 S P) 54 L st c s) := propext (mv_R_iff (i := .getfield 90) (len := 3) (ax := [174, 1, 1, 1]) (by decide +kernel))
theorem e118_54 {y : Int32} {x : Int32} : mr118 S P 54 L (.int y :: .int x :: st) sh M c s = (if y < x then mr118 S P 111 L st sh M c s else mr118 S P 57 L st sh M c s) := (propext (mv_R_iff (i := .if_icmp .gt 57) (len := 3) (ax := [111]) (by decide +kernel))).trans (q_br)
theorem e118_57 : mr118 S P 57 L st sh M c s = (mr118 S P 58 L (.int (nI 0) :: st) sh M c s) := propext (mv_R_iff (i := .iconst 0) (len := 1) (ax := []) (by decide +kernel))
theorem e118_58 {x : Int32} : mr118 S P 58 L (.int x :: st) sh M c s = (q_hs L 4 ∧ mr118 S P 60 (L.set 4 (some (.int x))) st sh M c s) := (propext (mv_R_iff (i := .istore 4) (len := 2) (ax := []) (by decide +kernel))).trans (q_st_eq (K := fun L => mr118 S P 60 L st sh M c s))
theorem e118_60 : mr118 S P 60 L st sh M c s = (q_isI (q_gv L 4) ∧ mr118 S P 62 L (q_gv L 4 :: st) sh M c s) := (propext (mv_R_iff (i := .iload 4) (len := 2) (ax := []) (by decide +kernel))).trans (q_ldI_eq (K := fun st => mr118 S P 62 L st sh M c s))
theorem e118_62 : mr118 S P 62 L st sh M c s = (q_isA (q_gv L 0) ∧ mr118 S P 63 L (q_gv L 0 :: st) sh M c s) := (propext (mv_R_iff (i := .aload_n 0) (len := 1) (ax := []) (by decide +kernel))).trans (q_ldA_eq (K := fun st => mr118 S P 63 L st sh M c s))
theorem e118_63 {v1 : Value} : mr118 S P 63 L (v1 :: st) sh M c s = (mv_ss st ≤ 8 ∧ c ≤ 0 ∧ s ≤ 0 ∧ mv_isO sh (some v1) 4 ∧ mv_kal S 72 [v1] sh M (mr118 S P) 66 L st c s) := (propext (mv_R_iff (i := .invokevirtual 220) (len := 3) (ax := [0, 72, 1, 4, 0, 0, 0, 847, 849, 55, 104, 850]) (by decide +kernel))).trans (q_call0)
theorem e118_66 {y : Int32} {x : Int32} : mr118 S P 66 L (.int y :: .int x :: st) sh M c s = (if y < x then mr118 S P 105 L st sh M c s else mr118 S P 69 L st sh M c s) := (propext (mv_R_iff (i := .if_icmp .gt 39) (len := 3) (ax := [105]) (by decide +kernel))).trans (q_br)
theorem e118_69 : mr118 S P 69 L st sh M c s = (q_isI (q_gv L 4) ∧ mr118 S P 71 L (q_gv L 4 :: st) sh M c s) := (propext (mv_R_iff (i := .iload 4) (len := 2) (ax := []) (by decide +kernel))).trans (q_ldI_eq (K := fun st => mr118 S P 71 L st sh M c s))
theorem e118_71 {v1 : Value} : mr118 S P 71 L (v1 :: st) sh M c s = (mv_ss st ≤ 8 ∧ c ≤ 0 ∧ s ≤ 0 ∧ True ∧ mv_kal S 117 [v1] sh M (mr118 S P) 74 L st c s) := (propext (mv_R_iff (i := .invokestatic 235) (len := 3) (ax := [3, 117, 1, 0, 0, 0, 0, 876, 877, 120, 878]) (by decide +kernel))).trans (q_call3)
theorem e118_74 : mr118 S P 74 L st sh M c s = (q_isI (q_gv L 3) ∧ mr118 S P 75 L (q_gv L 3 :: st) sh M c s) := (propext (mv_R_iff (i := .iload_n 3) (len := 1) (ax := []) (by decide +kernel))).trans (q_ldI_eq (K := fun st => mr118 S P 75 L st sh M c s))
theorem e118_75 {y : Int32} {x : Int32} : mr118 S P 75 L (.int y :: .int x :: st) sh M c s = (if x = y then mr118 S P 78 L st sh M c s else mr118 S P 99 L st sh M c s) := (propext (mv_R_iff (i := .if_icmp .ne 24) (len := 3) (ax := [99]) (by decide +kernel))).trans (q_br')
theorem e118_78 : mr118 S P 78 L st sh M c s = (q_isA (q_gv L 0) ∧ mr118 S P 79 L (q_gv L 0 :: st) sh M c s) := (propext (mv_R_iff (i := .aload_n 0) (len := 1) (ax := []) (by decide +kernel))).trans (q_ldA_eq (K := fun st => mr118 S P 79 L st sh M c s))
theorem e118_79 {a : Nat} : mr118 S P 79 L (.ref a :: st) sh M c s = (mv_kgf sh M a 4 12 (mr118 S P) 82 L st c s) := propext (mv_R_iff (i := .getfield 56) (len := 3) (ax := [535, 0, 4, 12]) (by decide +kernel))
theorem e118_82 : mr118 S P 82 L st sh M c s = (q_isA (q_gv L 0) ∧ mr118 S P 83 L (q_gv L 0 :: st) sh M c s) := (propext (mv_R_iff (i := .aload_n 0) (len := 1) (ax := []) (by decide +kernel))).trans (q_ldA_eq (K := fun st => mr118 S P 83 L st sh M c s))
theorem e118_83 {a : Nat} : mr118 S P 83 L (.ref a :: st) sh M c s = (mv_kgf sh M a 4 1 (mr118 S P) 86 L st c s) := propext (mv_R_iff (i := .getfield 19) (len := 3) (ax := [524, 0, 4, 1]) (by decide +kernel))
theorem e118_86 : mr118 S P 86 L st sh M c s = (q_isI (q_gv L 2) ∧ mr118 S P 87 L (q_gv L 2 :: st) sh M c s) := (propext (mv_R_iff (i := .iload_n 2) (len := 1) (ax := []) (by decide +kernel))).trans (q_ldI_eq (K := fun st => mr118 S P 87 L st sh M c s))
theorem e118_87 : mr118 S P 87 L st sh M c s = (q_isI (q_gv L 4) ∧ mr118 S P 89 L (q_gv L 4 :: st) sh M c s) := (propext (mv_R_iff (i := .iload 4) (len := 2) (ax := []) (by decide +kernel))).trans (q_ldI_eq (K := fun st => mr118 S P 89 L st sh M c s))
theorem e118_89 : mr118 S P 89 L st sh M c s = (q_isI (q_gv L 1) ∧ mr118 S P 90 L (q_gv L 1 :: st) sh M c s) := (propext (mv_R_iff (i := .iload_n 1) (len := 1) (ax := []) (by decide +kernel))).trans (q_ldI_eq (K := fun st => mr118 S P 90 L st sh M c s))
theorem e118_90 {v5 : Value} {v4 : Value} {v3 : Value} {v2 : Value} {v1 : Value} : mr118 S P 90 L (v5 :: v4 :: v3 :: v2 :: v1 :: st) sh M c s = (mv_ss st ≤ 8 ∧ c ≤ 0 ∧ s ≤ 0 ∧ mv_isO sh (some v1) 3 ∧ mv_kal S 116 [v1, v2, v3, v4, v5] sh M (mr118 S P) 93 L st c s) := (propext (mv_R_iff (i := .invokevirtual 231) (len := 3) (ax := [1, 116, 5, 3, 0, 0, 871, 873, 60, 112, 874]) (by decide +kernel))).trans (q_call1)
theorem e118_93 {x : Int32} : mr118 S P 93 L (.int x :: st) sh M c s = (if x = nI 0 then mr118 S P 99 L st sh M c s else mr118 S P 96 L st sh M c s) := (propext (mv_R_iff (i := .ifCond .eq 6) (len := 3) (ax := [99]) (by decide +kernel))).trans (q_br)
theorem e118_96 : mr118 S P 96 L st sh M c s = (q_isI (q_gv L 4) ∧ mr118 S P 98 L (q_gv L 4 :: st) sh M c s) := (propext (mv_R_iff (i := .iload 4) (len := 2) (ax := []) (by decide +kernel))).trans (q_ldI_eq (K := fun st => mr118 S P 98 L st sh M c s))
theorem e118_98 {x : Int32} : mr118 S P 98 L [.int x] sh M c s = (mv_nr 0 x ∧ P (some (.int x)) sh M) := propext (mv_R_iff (i := .ireturn) (len := 1) (ax := [0]) (by decide +kernel))
theorem e118_99 : mr118 S P 99 L st sh M c s = ((q_isI (q_gv L 4) ∧ q_hs L 4) ∧ mr118 S P 102 (L.set 4 (some (q_inc (q_gv L 4) (nI 1)))) st sh M c s) := (propext (mv_R_iff (i := .iinc 4 1) (len := 3) (ax := []) (by decide +kernel))).trans (q_inc_eq (K := fun L => mr118 S P 102 L st sh M c s))
theorem e118_102 : mr118 S P 102 L st sh M c s = (mr118 S P 60 L st sh M c s) := propext (mv_R_iff (i := .goto (-42)) (len := 3) (ax := [60]) (by decide +kernel))
theorem e118_105 : mr118 S P 105 L st sh M c s = ((q_isI (q_gv L 3) ∧ q_hs L 3) ∧ mr118 S P 108 (L.set 3 (some (q_inc (q_gv L 3) (nI 1)))) st sh M c s) := (propext (mv_R_iff (i := .iinc 3 1) (len := 3) (ax := []) (by decide +kernel))).trans (q_inc_eq (K := fun L => mr118 S P 108 L st sh M c s))
theorem e118_108 : mr118 S P 108 L st sh M c s = (mr118 S P 46 L st sh M c s) := propext (mv_R_iff (i := .goto (-62)) (len := 3) (ax := [46]) (by decide +kernel))
theorem e118_111 : mr118 S P 111 L st sh M c s = (mr118 S P 113 L (.int (Int32.ofInt (-4)) :: st) sh M c s) := (propext (mv_R_iff (i := .bipush (-4)) (len := 2) (ax := []) (by decide +kernel))).trans (congrArg (fun z => mr118 S P 113 L (.int z :: st) sh M c s) (by decide : (Int8.ofInt (-4)).toInt32 = Int32.ofInt (-4)))
theorem e118_113 {x : Int32} : mr118 S P 113 L [.int x] sh M c s = (mv_nr 0 x ∧ P (some (.int x)) sh M) := propext (mv_R_iff (i := .ireturn) (len := 1) (ax := [0]) (by decide +kernel))
end CD
