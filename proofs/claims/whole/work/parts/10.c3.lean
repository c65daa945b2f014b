/-! code lists and step rows, written by program -/
section CD
variable {S : Nat → mv_Sp} {P : mv_Post} {L : mv_Loc} {st : List Value} {sh : mv_Shp} {M : mv_Mem} {c s : Nat}
-- 21: Preconditions.checkIndex(IILjava/util/function/BiFunction;)I (not here: [12, 15])
def mk21 : mv_Cd := [
  (0, .iload_n 0, 1, []),
  (1, .ifCond .lt 8, 3, [9]),
  (4, .iload_n 0, 1, []),
  (5, .iload_n 1, 1, []),
  (6, .if_icmp .lt 10, 3, [16]),
  (9, .aload_n 2, 1, []),
  (10, .iload_n 0, 1, []),
  (11, .iload_n 1, 1, []),
  (16, .iload_n 0, 1, []),
  (17, .ireturn, 1, [0])]
def mr21 (S : Nat → mv_Sp) (P : mv_Post) : mv_Kt := mv_R mv_DF mk21 S (0, 0) P
theorem e21_0 : mr21 S P 0 L st sh M c s = (q_isI (q_gv L 0) ∧ mr21 S P 1 L (q_gv L 0 :: st) sh M c s) := (propext (mv_R_iff (i := .iload_n 0) (len := 1) (ax := []) (by decide +kernel))).trans (q_ldI_eq (K := fun st => mr21 S P 1 L st sh M c s))
theorem e21_1 {x : Int32} : mr21 S P 1 L (.int x :: st) sh M c s = (if x < nI 0 then mr21 S P 9 L st sh M c s else mr21 S P 4 L st sh M c s) := (propext (mv_R_iff (i := .ifCond .lt 8) (len := 3) (ax := [9]) (by decide +kernel))).trans (q_br)
theorem e21_4 : mr21 S P 4 L st sh M c s = (q_isI (q_gv L 0) ∧ mr21 S P 5 L (q_gv L 0 :: st) sh M c s) := (propext (mv_R_iff (i := .iload_n 0) (len := 1) (ax := []) (by decide +kernel))).trans (q_ldI_eq (K := fun st => mr21 S P 5 L st sh M c s))
theorem e21_5 : mr21 S P 5 L st sh M c s = (q_isI (q_gv L 1) ∧ mr21 S P 6 L (q_gv L 1 :: st) sh M c s) := (propext (mv_R_iff (i := .iload_n 1) (len := 1) (ax := []) (by decide +kernel))).trans (q_ldI_eq (K := fun st => mr21 S P 6 L st sh M c s))
theorem e21_6 {y : Int32} {x : Int32} : mr21 S P 6 L (.int y :: .int x :: st) sh M c s = (if x < y then mr21 S P 16 L st sh M c s else mr21 S P 9 L st sh M c s) := (propext (mv_R_iff (i := .if_icmp .lt 10) (len := 3) (ax := [16]) (by decide +kernel))).trans (q_br)
theorem e21_9 : mr21 S P 9 L st sh M c s = (q_isA (q_gv L 2) ∧ mr21 S P 10 L (q_gv L 2 :: st) sh M c s) := (propext (mv_R_iff (i := .aload_n 2) (len := 1) (ax := []) (by decide +kernel))).trans (q_ldA_eq (K := fun st => mr21 S P 10 L st sh M c s))
theorem e21_10 : mr21 S P 10 L st sh M c s = (q_isI (q_gv L 0) ∧ mr21 S P 11 L (q_gv L 0 :: st) sh M c s) := (propext (mv_R_iff (i := .iload_n 0) (len := 1) (ax := []) (by decide +kernel))).trans (q_ldI_eq (K := fun st => mr21 S P 11 L st sh M c s))
theorem e21_11 : mr21 S P 11 L st sh M c s = (q_isI (q_gv L 1) ∧ mr21 S P 12 L (q_gv L 1 :: st) sh M c s) := (propext (mv_R_iff (i := .iload_n 1) (len := 1) (ax := []) (by decide +kernel))).trans (q_ldI_eq (K := fun st => mr21 S P 12 L st sh M c s))
theorem e21_16 : mr21 S P 16 L st sh M c s = (q_isI (q_gv L 0) ∧ mr21 S P 17 L (q_gv L 0 :: st) sh M c s) := (propext (mv_R_iff (i := .iload_n 0) (len := 1) (ax := []) (by decide +kernel))).trans (q_ldI_eq (K := fun st => mr21 S P 17 L st sh M c s))
theorem e21_17 {x : Int32} : mr21 S P 17 L [.int x] sh M c s = (mv_nr 0 x ∧ P (some (.int x)) sh M) := propext (mv_R_iff (i := .ireturn) (len := 1) (ax := [0]) (by decide +kernel))
-- 22: String.checkIndex(II)V
def mk22 : mv_Cd := [
  (0, .iload_n 0, 1, []),
  (1, .iload_n 1, 1, []),
  (2, .getstatic 1053, 3, [331, 1]),
  (5, .invokestatic 1059, 3, [3, 21, 3, 0, 0, 0, 0, 430, 431, 117, 432]),
  (8, .pop, 1, []),
  (9, .return_, 1, [])]
def mr22 (S : Nat → mv_Sp) (P : mv_Post) : mv_Kt := mv_R mv_DF mk22 S (0, 0) P
theorem e22_0 : mr22 S P 0 L st sh M c s = (q_isI (q_gv L 0) ∧ mr22 S P 1 L (q_gv L 0 :: st) sh M c s) := (propext (mv_R_iff (i := .iload_n 0) (len := 1) (ax := []) (by decide +kernel))).trans (q_ldI_eq (K := fun st => mr22 S P 1 L st sh M c s))
theorem e22_1 : mr22 S P 1 L st sh M c s = (q_isI (q_gv L 1) ∧ mr22 S P 2 L (q_gv L 1 :: st) sh M c s) := (propext (mv_R_iff (i := .iload_n 1) (len := 1) (ax := []) (by decide +kernel))).trans (q_ldI_eq (K := fun st => mr22 S P 2 L st sh M c s))
theorem e22_2 : mr22 S P 2 L st sh M c s = (mr22 S P 5 L (.null :: st) sh M c s ∧ mr22 S P 5 L (.ref 2000 :: st) sh M c s) := propext (mv_R_iff (i := .getstatic 1053) (len := 3) (ax := [331, 1]) (by decide +kernel))
theorem e22_5 {v3 : Value} {v2 : Value} {v1 : Value} : mr22 S P 5 L (v3 :: v2 :: v1 :: st) sh M c s = (mv_ss st ≤ 8 ∧ c ≤ 0 ∧ s ≤ 0 ∧ True ∧ mv_kal S 21 [v1, v2, v3] sh M (mr22 S P) 8 L st c s) := (propext (mv_R_iff (i := .invokestatic 1059) (len := 3) (ax := [3, 21, 3, 0, 0, 0, 0, 430, 431, 117, 432]) (by decide +kernel))).trans (q_call3)
theorem e22_8 {x : Int32} : mr22 S P 8 L (.int x :: st) sh M c s = (mr22 S P 9 L st sh M c s) := propext (mv_R_iff (i := .pop) (len := 1) (ax := []) (by decide +kernel))
theorem e22_8r {x : Nat} : mr22 S P 8 L (.ref x :: st) sh M c s = (mr22 S P 9 L st sh M c s) := propext (mv_R_iff (i := .pop) (len := 1) (ax := []) (by decide +kernel))
theorem e22_9 : mr22 S P 9 L [] sh M c s = (P none sh M) := propext (mv_R_iff (i := .return_) (len := 1) (ax := []) (by decide +kernel))
-- 23: AbstractStringBuilder.charAt(I)C (not here: [44])
def mk23 : mv_Cd := [
  (0, .aload_n 0, 1, []),
  (1, .getfield 22, 3, [148, 0, 6, 1]),
  (4, .istore_n 2, 1, []),
  (5, .aload_n 0, 1, []),
  (6, .getfield 15, 3, [147, 0, 6, 0]),
  (9, .astore_n 3, 1, []),
  (10, .aload_n 0, 1, []),
  (11, .getfield 79, 3, [150, 0, 6, 3]),
  (14, .aload_n 3, 1, []),
  (15, .arraylength, 1, []),
  (16, .iload_n 2, 1, []),
  (17, .ishr, 1, []),
  (18, .invokestatic 138, 3, [11, 426, 309, 114, 310]),
  (21, .istore 4, 2, []),
  (23, .iload_n 1, 1, []),
  (24, .iload 4, 2, []),
  (26, .invokestatic 144, 3, [3, 22, 2, 0, 0, 0, 0, 427, 428, 107, 429]),
  (29, .iload_n 2, 1, []),
  (30, .ifCond .ne 12, 3, [42]),
  (33, .aload_n 3, 1, []),
  (34, .iload_n 1, 1, []),
  (35, .baload, 1, []),
  (36, .sipush 255, 3, []),
  (39, .iand, 1, []),
  (40, .i2c, 1, []),
  (41, .ireturn, 1, [2]),
  (42, .aload_n 3, 1, []),
  (43, .iload_n 1, 1, [])]
def mr23 (S : Nat → mv_Sp) (P : mv_Post) : mv_Kt := mv_R mv_DF mk23 S (0, 0) P
theorem e23_0 : mr23 S P 0 L st sh M c s = (q_isA (q_gv L 0) ∧ mr23 S P 1 L (q_gv L 0 :: st) sh M c s) := (propext (mv_R_iff (i := .aload_n 0) (len := 1) (ax := []) (by decide +kernel))).trans (q_ldA_eq (K := fun st => mr23 S P 1 L st sh M c s))
theorem e23_1 {a : Nat} : mr23 S P 1 L (.ref a :: st) sh M c s = (mv_kgf sh M a 6 1 (mr23 S P) 4 L st c s) := propext (mv_R_iff (i := .getfield 22) (len := 3) (ax := [148, 0, 6, 1]) (by decide +kernel))
theorem e23_4 {x : Int32} : mr23 S P 4 L (.int x :: st) sh M c s = (q_hs L 2 ∧ mr23 S P 5 (L.set 2 (some (.int x))) st sh M c s) := (propext (mv_R_iff (i := .istore_n 2) (len := 1) (ax := []) (by decide +kernel))).trans (q_st_eq (K := fun L => mr23 S P 5 L st sh M c s))
theorem e23_5 : mr23 S P 5 L st sh M c s = (q_isA (q_gv L 0) ∧ mr23 S P 6 L (q_gv L 0 :: st) sh M c s) := (propext (mv_R_iff (i := .aload_n 0) (len := 1) (ax := []) (by decide +kernel))).trans (q_ldA_eq (K := fun st => mr23 S P 6 L st sh M c s))
theorem e23_6 {a : Nat} : mr23 S P 6 L (.ref a :: st) sh M c s = (mv_kgf sh M a 6 0 (mr23 S P) 9 L st c s) := propext (mv_R_iff (i := .getfield 15) (len := 3) (ax := [147, 0, 6, 0]) (by decide +kernel))
theorem e23_9 {x : Nat} : mr23 S P 9 L (.ref x :: st) sh M c s = (q_hs L 3 ∧ mr23 S P 10 (L.set 3 (some (.ref x))) st sh M c s) := (propext (mv_R_iff (i := .astore_n 3) (len := 1) (ax := []) (by decide +kernel))).trans (q_st_eq (K := fun L => mr23 S P 10 L st sh M c s))
theorem e23_10 : mr23 S P 10 L st sh M c s = (q_isA (q_gv L 0) ∧ mr23 S P 11 L (q_gv L 0 :: st) sh M c s) := (propext (mv_R_iff (i := .aload_n 0) (len := 1) (ax := []) (by decide +kernel))).trans (q_ldA_eq (K := fun st => mr23 S P 11 L st sh M c s))
theorem e23_11 {a : Nat} : mr23 S P 11 L (.ref a :: st) sh M c s = (mv_kgf sh M a 6 3 (mr23 S P) 14 L st c s) := propext (mv_R_iff (i := .getfield 79) (len := 3) (ax := [150, 0, 6, 3]) (by decide +kernel))
theorem e23_14 : mr23 S P 14 L st sh M c s = (q_isA (q_gv L 3) ∧ mr23 S P 15 L (q_gv L 3 :: st) sh M c s) := (propext (mv_R_iff (i := .aload_n 3) (len := 1) (ax := []) (by decide +kernel))).trans (q_ldA_eq (K := fun st => mr23 S P 15 L st sh M c s))
theorem e23_15 {a : Nat} : mr23 S P 15 L (.ref a :: st) sh M c s = (mv_kln sh M a (mr23 S P) 16 L st c s) := propext (mv_R_iff (i := .arraylength) (len := 1) (ax := []) (by decide +kernel))
theorem e23_16 : mr23 S P 16 L st sh M c s = (q_isI (q_gv L 2) ∧ mr23 S P 17 L (q_gv L 2 :: st) sh M c s) := (propext (mv_R_iff (i := .iload_n 2) (len := 1) (ax := []) (by decide +kernel))).trans (q_ldI_eq (K := fun st => mr23 S P 17 L st sh M c s))
theorem e23_17 {y : Int32} {x : Int32} : mr23 S P 17 L (.int y :: .int x :: st) sh M c s = (mr23 S P 18 L (.int (x >>> (y &&& 31)) :: st) sh M c s) := propext (mv_R_iff (i := .ishr) (len := 1) (ax := []) (by decide +kernel))
theorem e23_18 {y : Int32} {x : Int32} : mr23 S P 18 L (.int y :: .int x :: st) sh M c s = (mv_ss st + 1 + 1 ≤ 8 ∧ mr23 S P 21 L (.int (if y < x then y else x) :: st) sh M c s) := propext (mv_R_iff (i := .invokestatic 138) (len := 3) (ax := [11, 426, 309, 114, 310]) (by decide +kernel))
theorem e23_21 {x : Int32} : mr23 S P 21 L (.int x :: st) sh M c s = (q_hs L 4 ∧ mr23 S P 23 (L.set 4 (some (.int x))) st sh M c s) := (propext (mv_R_iff (i := .istore 4) (len := 2) (ax := []) (by decide +kernel))).trans (q_st_eq (K := fun L => mr23 S P 23 L st sh M c s))
theorem e23_23 : mr23 S P 23 L st sh M c s = (q_isI (q_gv L 1) ∧ mr23 S P 24 L (q_gv L 1 :: st) sh M c s) := (propext (mv_R_iff (i := .iload_n 1) (len := 1) (ax := []) (by decide +kernel))).trans (q_ldI_eq (K := fun st => mr23 S P 24 L st sh M c s))
theorem e23_24 : mr23 S P 24 L st sh M c s = (q_isI (q_gv L 4) ∧ mr23 S P 26 L (q_gv L 4 :: st) sh M c s) := (propext (mv_R_iff (i := .iload 4) (len := 2) (ax := []) (by decide +kernel))).trans (q_ldI_eq (K := fun st => mr23 S P 26 L st sh M c s))
theorem e23_26 {v2 : Value} {v1 : Value} : mr23 S P 26 L (v2 :: v1 :: st) sh M c s = (mv_ss st ≤ 8 ∧ c ≤ 0 ∧ s ≤ 0 ∧ True ∧ mv_kal S 22 [v1, v2] sh M (mr23 S P) 29 L st c s) := (propext (mv_R_iff (i := .invokestatic 144) (len := 3) (ax := [3, 22, 2, 0, 0, 0, 0, 427, 428, 107, 429]) (by decide +kernel))).trans (q_call3)
theorem e23_29 : mr23 S P 29 L st sh M c s = (q_isI (q_gv L 2) ∧ mr23 S P 30 L (q_gv L 2 :: st) sh M c s) := (propext (mv_R_iff (i := .iload_n 2) (len := 1) (ax := []) (by decide +kernel))).trans (q_ldI_eq (K := fun st => mr23 S P 30 L st sh M c s))
theorem e23_30 {x : Int32} : mr23 S P 30 L (.int x :: st) sh M c s = (if x = nI 0 then mr23 S P 33 L st sh M c s else mr23 S P 42 L st sh M c s) := (propext (mv_R_iff (i := .ifCond .ne 12) (len := 3) (ax := [42]) (by decide +kernel))).trans (q_br')
theorem e23_33 : mr23 S P 33 L st sh M c s = (q_isA (q_gv L 3) ∧ mr23 S P 34 L (q_gv L 3 :: st) sh M c s) := (propext (mv_R_iff (i := .aload_n 3) (len := 1) (ax := []) (by decide +kernel))).trans (q_ldA_eq (K := fun st => mr23 S P 34 L st sh M c s))
theorem e23_34 : mr23 S P 34 L st sh M c s = (q_isI (q_gv L 1) ∧ mr23 S P 35 L (q_gv L 1 :: st) sh M c s) := (propext (mv_R_iff (i := .iload_n 1) (len := 1) (ax := []) (by decide +kernel))).trans (q_ldI_eq (K := fun st => mr23 S P 35 L st sh M c s))
theorem e23_35 {i : Int32} {a : Nat} : mr23 S P 35 L (.int i :: .ref a :: st) sh M c s = (mv_kbl sh M a i (mr23 S P) 36 L st c s) := propext (mv_R_iff (i := .baload) (len := 1) (ax := []) (by decide +kernel))
theorem e23_36 : mr23 S P 36 L st sh M c s = (mr23 S P 39 L (.int (nI 255) :: st) sh M c s) := propext (mv_R_iff (i := .sipush 255) (len := 3) (ax := []) (by decide +kernel))
theorem e23_39 {y : Int32} {x : Int32} : mr23 S P 39 L (.int y :: .int x :: st) sh M c s = (mr23 S P 40 L (.int (x &&& y) :: st) sh M c s) := propext (mv_R_iff (i := .iand) (len := 1) (ax := []) (by decide +kernel))
theorem e23_40 {x : Int32} : mr23 S P 40 L (.int x :: st) sh M c s = (mr23 S P 41 L (.int (q_ch x) :: st) sh M c s) := propext (mv_R_iff (i := .i2c) (len := 1) (ax := []) (by decide +kernel))
theorem e23_41 {x : Int32} : mr23 S P 41 L [.int x] sh M c s = (mv_nr 2 x ∧ P (some (.int x)) sh M) := propext (mv_R_iff (i := .ireturn) (len := 1) (ax := [2]) (by decide +kernel))
theorem e23_42 : mr23 S P 42 L st sh M c s = (q_isA (q_gv L 3) ∧ mr23 S P 43 L (q_gv L 3 :: st) sh M c s) := (propext (mv_R_iff (i := .aload_n 3) (len := 1) (ax := []) (by decide +kernel))).trans (q_ldA_eq (K := fun st => mr23 S P 43 L st sh M c s))
theorem e23_43 : mr23 S P 43 L st sh M c s = (q_isI (q_gv L 1) ∧ mr23 S P 44 L (q_gv L 1 :: st) sh M c s) := (propext (mv_R_iff (i := .iload_n 1) (len := 1) (ax := []) (by decide +kernel))).trans (q_ldI_eq (K := fun st => mr23 S P 44 L st sh M c s))
-- 24: StringBuilder.charAt(I)C
def mk24 : mv_Cd := [
  (0, .aload_n 0, 1, []),
  (1, .iload_n 1, 1, []),
  (2, .invokespecial 329, 3, [2, 23, 2, 6, 0, 0, 0, 423, 1399, 159, 424, 105, 425]),
  (5, .ireturn, 1, [2])]
def mr24 (S : Nat → mv_Sp) (P : mv_Post) : mv_Kt := mv_R mv_DF mk24 S (0, 0) P
theorem e24_0 : mr24 S P 0 L st sh M c s = (q_isA (q_gv L 0) ∧ mr24 S P 1 L (q_gv L 0 :: st) sh M c s) := (propext (mv_R_iff (i := .aload_n 0) (len := 1) (ax := []) (by decide +kernel))).trans (q_ldA_eq (K := fun st => mr24 S P 1 L st sh M c s))
theorem e24_1 : mr24 S P 1 L st sh M c s = (q_isI (q_gv L 1) ∧ mr24 S P 2 L (q_gv L 1 :: st) sh M c s) := (propext (mv_R_iff (i := .iload_n 1) (len := 1) (ax := []) (by decide +kernel))).trans (q_ldI_eq (K := fun st => mr24 S P 2 L st sh M c s))
theorem e24_2 {v2 : Value} {v1 : Value} : mr24 S P 2 L (v2 :: v1 :: st) sh M c s = (mv_ss st ≤ 8 ∧ c ≤ 0 ∧ s ≤ 0 ∧ mv_isO sh (some v1) 6 ∧ mv_kal S 23 [v1, v2] sh M (mr24 S P) 5 L st c s) := (propext (mv_R_iff (i := .invokespecial 329) (len := 3) (ax := [2, 23, 2, 6, 0, 0, 0, 423, 1399, 159, 424, 105, 425]) (by decide +kernel))).trans (q_call2)
theorem e24_5 {x : Int32} : mr24 S P 5 L [.int x] sh M c s = (mv_nr 2 x ∧ P (some (.int x)) sh M) := propext (mv_R_iff (i := .ireturn) (len := 1) (ax := [2]) (by decide +kernel))
-- 25: Reader.letterHere()I
def mk25 : mv_Cd := [
  (0, .aload_n 0, 1, []),
  (1, .getfield 22, 3, [222, 0, 2, 2]),
  (4, .aload_n 0, 1, []),
  (5, .getfield 18, 3, [219, 0, 2, 0]),
  (8, .invokevirtual 29, 3, [0, 20, 1, 6, 0, 0, 0, 400, 401, 402, 106, 403]),
  (11, .if_icmp .ge 17, 3, [28]),
  (14, .aload_n 0, 1, []),
  (15, .getfield 18, 3, [219, 0, 2, 0]),
  (18, .aload_n 0, 1, []),
  (19, .getfield 22, 3, [222, 0, 2, 2]),
  (22, .invokevirtual 91, 3, [0, 24, 2, 6, 0, 0, 0, 419, 420, 421, 106, 422]),
  (25, .goto 4, 3, [29]),
  (28, .iconst 0, 1, []),
  (29, .ireturn, 1, [0])]
def mr25 (S : Nat → mv_Sp) (P : mv_Post) : mv_Kt := mv_R mv_DF mk25 S (0, 0) P
theorem e25_0 : mr25 S P 0 L st sh M c s = (q_isA (q_gv L 0) ∧ mr25 S P 1 L (q_gv L 0 :: st) sh M c s) := (propext (mv_R_iff (i := .aload_n 0) (len := 1) (ax := []) (by decide +kernel))).trans (q_ldA_eq (K := fun st => mr25 S P 1 L st sh M c s))
theorem e25_1 {a : Nat} : mr25 S P 1 L (.ref a :: st) sh M c s = (mv_kgf sh M a 2 2 (mr25 S P) 4 L st c s) := propext (mv_R_iff (i := .getfield 22) (len := 3) (ax := [222, 0, 2, 2]) (by decide +kernel))
theorem e25_4 : mr25 S P 4 L st sh M c s = (q_isA (q_gv L 0) ∧ mr25 S P 5 L (q_gv L 0 :: st) sh M c s) := (propext (mv_R_iff (i := .aload_n 0) (len := 1) (ax := []) (by decide +kernel))).trans (q_ldA_eq (K := fun st => mr25 S P 5 L st sh M c s))
theorem e25_5 {a : Nat} : mr25 S P 5 L (.ref a :: st) sh M c s = (mv_kgf sh M a 2 0 (mr25 S P) 8 L st c s) := propext (mv_R_iff (i := .getfield 18) (len := 3) (ax := [219, 0, 2, 0]) (by decide +kernel))
theorem e25_8 {v1 : Value} : mr25 S P 8 L (v1 :: st) sh M c s = (mv_ss st ≤ 8 ∧ c ≤ 0 ∧ s ≤ 0 ∧ mv_isO sh (some v1) 6 ∧ mv_kal S 20 [v1] sh M (mr25 S P) 11 L st c s) := (propext (mv_R_iff (i := .invokevirtual 29) (len := 3) (ax := [0, 20, 1, 6, 0, 0, 0, 400, 401, 402, 106, 403]) (by decide +kernel))).trans (q_call0)
theorem e25_11 {y : Int32} {x : Int32} : mr25 S P 11 L (.int y :: .int x :: st) sh M c s = (if y ≤ x then mr25 S P 28 L st sh M c s else mr25 S P 14 L st sh M c s) := (propext (mv_R_iff (i := .if_icmp .ge 17) (len := 3) (ax := [28]) (by decide +kernel))).trans (q_br)
theorem e25_14 : mr25 S P 14 L st sh M c s = (q_isA (q_gv L 0) ∧ mr25 S P 15 L (q_gv L 0 :: st) sh M c s) := (propext (mv_R_iff (i := .aload_n 0) (len := 1) (ax := []) (by decide +kernel))).trans (q_ldA_eq (K := fun st => mr25 S P 15 L st sh M c s))
theorem e25_15 {a : Nat} : mr25 S P 15 L (.ref a :: st) sh M c s = (mv_kgf sh M a 2 0 (mr25 S P) 18 L st c s) := propext (mv_R_iff (i := .getfield 18) (len := 3) (ax := [219, 0, 2, 0]) (by decide +kernel))
theorem e25_18 : mr25 S P 18 L st sh M c s = (q_isA (q_gv L 0) ∧ mr25 S P 19 L (q_gv L 0 :: st) sh M c s) := (propext (mv_R_iff (i := .aload_n 0) (len := 1) (ax := []) (by decide +kernel))).trans (q_ldA_eq (K := fun st => mr25 S P 19 L st sh M c s))
theorem e25_19 {a : Nat} : mr25 S P 19 L (.ref a :: st) sh M c s = (mv_kgf sh M a 2 2 (mr25 S P) 22 L st c s) := propext (mv_R_iff (i := .getfield 22) (len := 3) (ax := [222, 0, 2, 2]) (by decide +kernel))
theorem e25_22 {v2 : Value} {v1 : Value} : mr25 S P 22 L (v2 :: v1 :: st) sh M c s = (mv_ss st ≤ 8 ∧ c ≤ 0 ∧ s ≤ 0 ∧ mv_isO sh (some v1) 6 ∧ mv_kal S 24 [v1, v2] sh M (mr25 S P) 25 L st c s) := (propext (mv_R_iff (i := .invokevirtual 91) (len := 3) (ax := [0, 24, 2, 6, 0, 0, 0, 419, 420, 421, 106, 422]) (by decide +kernel))).trans (q_call0)
theorem e25_25 : mr25 S P 25 L st sh M c s = (mr25 S P 29 L st sh M c s) := propext (mv_R_iff (i := .goto 4) (len := 3) (ax := [29]) (by decide +kernel))
theorem e25_28 : mr25 S P 28 L st sh M c s = (mr25 S P 29 L (.int (nI 0) :: st) sh M c s) := propext (mv_R_iff (i := .iconst 0) (len := 1) (ax := []) (by decide +kernel))
theorem e25_29 {x : Int32} : mr25 S P 29 L [.int x] sh M c s = (mv_nr 0 x ∧ P (some (.int x)) sh M) := propext (mv_R_iff (i := .ireturn) (len := 1) (ax := [0]) (by decide +kernel))
-- 26: Reader.nextLetter()I
def mk26 : mv_Cd := [
  (0, .aload_n 0, 1, []),
  (1, .invokevirtual 64, 3, [0, 25, 1, 2, 0, 0, 0, 415, 417, 4, 110, 418]),
  (4, .istore_n 1, 1, []),
  (5, .aload_n 0, 1, []),
  (6, .getfield 22, 3, [222, 0, 2, 2]),
  (9, .aload_n 0, 1, []),
  (10, .getfield 18, 3, [219, 0, 2, 0]),
  (13, .invokevirtual 29, 3, [0, 20, 1, 6, 0, 0, 0, 400, 401, 402, 106, 403]),
  (16, .if_icmp .ge 13, 3, [29]),
  (19, .aload_n 0, 1, []),
  (20, .dup, 1, []),
  (21, .getfield 22, 3, [222, 0, 2, 2]),
  (24, .iconst 1, 1, []),
  (25, .iadd, 1, []),
  (26, .putfield 22, 3, [222, 0, 2, 2, 0]),
  (29, .iload_n 1, 1, []),
  (30, .ireturn, 1, [0])]
def mr26 (S : Nat → mv_Sp) (P : mv_Post) : mv_Kt := mv_R mv_DF mk26 S (0, 0) P
theorem e26_0 : mr26 S P 0 L st sh M c s = (q_isA (q_gv L 0) ∧ mr26 S P 1 L (q_gv L 0 :: st) sh M c s) := (propext (mv_R_iff (i := .aload_n 0) (len := 1) (ax := []) (by decide +kernel))).trans (q_ldA_eq (K := fun st => mr26 S P 1 L st sh M c s))
theorem e26_1 {v1 : Value} : mr26 S P 1 L (v1 :: st) sh M c s = (mv_ss st ≤ 8 ∧ c ≤ 0 ∧ s ≤ 0 ∧ mv_isO sh (some v1) 2 ∧ mv_kal S 25 [v1] sh M (mr26 S P) 4 L st c s) := (propext (mv_R_iff (i := .invokevirtual 64) (len := 3) (ax := [0, 25, 1, 2, 0, 0, 0, 415, 417, 4, 110, 418]) (by decide +kernel))).trans (q_call0)
theorem e26_4 {x : Int32} : mr26 S P 4 L (.int x :: st) sh M c s = (q_hs L 1 ∧ mr26 S P 5 (L.set 1 (some (.int x))) st sh M c s) := (propext (mv_R_iff (i := .istore_n 1) (len := 1) (ax := []) (by decide +kernel))).trans (q_st_eq (K := fun L => mr26 S P 5 L st sh M c s))
theorem e26_5 : mr26 S P 5 L st sh M c s = (q_isA (q_gv L 0) ∧ mr26 S P 6 L (q_gv L 0 :: st) sh M c s) := (propext (mv_R_iff (i := .aload_n 0) (len := 1) (ax := []) (by decide +kernel))).trans (q_ldA_eq (K := fun st => mr26 S P 6 L st sh M c s))
theorem e26_6 {a : Nat} : mr26 S P 6 L (.ref a :: st) sh M c s = (mv_kgf sh M a 2 2 (mr26 S P) 9 L st c s) := propext (mv_R_iff (i := .getfield 22) (len := 3) (ax := [222, 0, 2, 2]) (by decide +kernel))
theorem e26_9 : mr26 S P 9 L st sh M c s = (q_isA (q_gv L 0) ∧ mr26 S P 10 L (q_gv L 0 :: st) sh M c s) := (propext (mv_R_iff (i := .aload_n 0) (len := 1) (ax := []) (by decide +kernel))).trans (q_ldA_eq (K := fun st => mr26 S P 10 L st sh M c s))
theorem e26_10 {a : Nat} : mr26 S P 10 L (.ref a :: st) sh M c s = (mv_kgf sh M a 2 0 (mr26 S P) 13 L st c s) := propext (mv_R_iff (i := .getfield 18) (len := 3) (ax := [219, 0, 2, 0]) (by decide +kernel))
theorem e26_13 {v1 : Value} : mr26 S P 13 L (v1 :: st) sh M c s = (mv_ss st ≤ 8 ∧ c ≤ 0 ∧ s ≤ 0 ∧ mv_isO sh (some v1) 6 ∧ mv_kal S 20 [v1] sh M (mr26 S P) 16 L st c s) := (propext (mv_R_iff (i := .invokevirtual 29) (len := 3) (ax := [0, 20, 1, 6, 0, 0, 0, 400, 401, 402, 106, 403]) (by decide +kernel))).trans (q_call0)
theorem e26_16 {y : Int32} {x : Int32} : mr26 S P 16 L (.int y :: .int x :: st) sh M c s = (if y ≤ x then mr26 S P 29 L st sh M c s else mr26 S P 19 L st sh M c s) := (propext (mv_R_iff (i := .if_icmp .ge 13) (len := 3) (ax := [29]) (by decide +kernel))).trans (q_br)
theorem e26_19 : mr26 S P 19 L st sh M c s = (q_isA (q_gv L 0) ∧ mr26 S P 20 L (q_gv L 0 :: st) sh M c s) := (propext (mv_R_iff (i := .aload_n 0) (len := 1) (ax := []) (by decide +kernel))).trans (q_ldA_eq (K := fun st => mr26 S P 20 L st sh M c s))
theorem e26_20 {x : Int32} : mr26 S P 20 L (.int x :: st) sh M c s = (mr26 S P 21 L (.int x :: .int x :: st) sh M c s) := propext (mv_R_iff (i := .dup) (len := 1) (ax := []) (by decide +kernel))
theorem e26_20r {x : Nat} : mr26 S P 20 L (.ref x :: st) sh M c s = (mr26 S P 21 L (.ref x :: .ref x :: st) sh M c s) := propext (mv_R_iff (i := .dup) (len := 1) (ax := []) (by decide +kernel))
theorem e26_21 {a : Nat} : mr26 S P 21 L (.ref a :: st) sh M c s = (mv_kgf sh M a 2 2 (mr26 S P) 24 L st c s) := propext (mv_R_iff (i := .getfield 22) (len := 3) (ax := [222, 0, 2, 2]) (by decide +kernel))
theorem e26_24 : mr26 S P 24 L st sh M c s = (mr26 S P 25 L (.int (nI 1) :: st) sh M c s) := propext (mv_R_iff (i := .iconst 1) (len := 1) (ax := []) (by decide +kernel))
theorem e26_25 {y : Int32} {x : Int32} : mr26 S P 25 L (.int y :: .int x :: st) sh M c s = (mr26 S P 26 L (.int (x + y) :: st) sh M c s) := propext (mv_R_iff (i := .iadd) (len := 1) (ax := []) (by decide +kernel))
theorem e26_26 {x : Int32} {a : Nat} : mr26 S P 26 L (.int x :: .ref a :: st) sh M c s = (True ∧ mv_kpf sh M a 2 2 x (mr26 S P) 29 L st c s) := propext (mv_R_iff (i := .putfield 22) (len := 3) (ax := [222, 0, 2, 2, 0]) (by decide +kernel))
theorem e26_29 : mr26 S P 29 L st sh M c s = (q_isI (q_gv L 1) ∧ mr26 S P 30 L (q_gv L 1 :: st) sh M c s) := (propext (mv_R_iff (i := .iload_n 1) (len := 1) (ax := []) (by decide +kernel))).trans (q_ldI_eq (K := fun st => mr26 S P 30 L st sh M c s))
theorem e26_30 {x : Int32} : mr26 S P 30 L [.int x] sh M c s = (mv_nr 0 x ∧ P (some (.int x)) sh M) := propext (mv_R_iff (i := .ireturn) (len := 1) (ax := [0]) (by decide +kernel))
-- 27: Reader.readFigure()I
def mk27 : mv_Cd := [
  (0, .aload_n 0, 1, []),
  (1, .invokevirtual 64, 3, [0, 25, 1, 2, 0, 0, 0, 415, 417, 4, 110, 418]),
  (4, .istore_n 1, 1, []),
  (5, .iload_n 1, 1, []),
  (6, .bipush 48, 2, []),
  (8, .if_icmp .lt 9, 3, [17]),
  (11, .iload_n 1, 1, []),
  (12, .bipush 57, 2, []),
  (14, .if_icmp .le 5, 3, [19]),
  (17, .iconst (-1), 1, []),
  (18, .ireturn, 1, [0]),
  (19, .aload_n 0, 1, []),
  (20, .dup, 1, []),
  (21, .getfield 22, 3, [222, 0, 2, 2]),
  (24, .iconst 1, 1, []),
  (25, .iadd, 1, []),
  (26, .putfield 22, 3, [222, 0, 2, 2, 0]),
  (29, .iload_n 1, 1, []),
  (30, .bipush 48, 2, []),
  (32, .isub, 1, []),
  (33, .ireturn, 1, [0])]
def mr27 (S : Nat → mv_Sp) (P : mv_Post) : mv_Kt := mv_R mv_DF mk27 S (0, 0) P
theorem e27_0 : mr27 S P 0 L st sh M c s = (q_isA (q_gv L 0) ∧ mr27 S P 1 L (q_gv L 0 :: st) sh M c s) := (propext (mv_R_iff (i := .aload_n 0) (len := 1) (ax := []) (by decide +kernel))).trans (q_ldA_eq (K := fun st => mr27 S P 1 L st sh M c s))
theorem e27_1 {v1 : Value} : mr27 S P 1 L (v1 :: st) sh M c s = (mv_ss st ≤ 8 ∧ c ≤ 0 ∧ s ≤ 0 ∧ mv_isO sh (some v1) 2 ∧ mv_kal S 25 [v1] sh M (mr27 S P) 4 L st c s) := (propext (mv_R_iff (i := .invokevirtual 64) (len := 3) (ax := [0, 25, 1, 2, 0, 0, 0, 415, 417, 4, 110, 418]) (by decide +kernel))).trans (q_call0)
theorem e27_4 {x : Int32} : mr27 S P 4 L (.int x :: st) sh M c s = (q_hs L 1 ∧ mr27 S P 5 (L.set 1 (some (.int x))) st sh M c s) := (propext (mv_R_iff (i := .istore_n 1) (len := 1) (ax := []) (by decide +kernel))).trans (q_st_eq (K := fun L => mr27 S P 5 L st sh M c s))
theorem e27_5 : mr27 S P 5 L st sh M c s = (q_isI (q_gv L 1) ∧ mr27 S P 6 L (q_gv L 1 :: st) sh M c s) := (propext (mv_R_iff (i := .iload_n 1) (len := 1) (ax := []) (by decide +kernel))).trans (q_ldI_eq (K := fun st => mr27 S P 6 L st sh M c s))
theorem e27_6 : mr27 S P 6 L st sh M c s = (mr27 S P 8 L (.int (nI 48) :: st) sh M c s) := propext (mv_R_iff (i := .bipush 48) (len := 2) (ax := []) (by decide +kernel))
theorem e27_8 {y : Int32} {x : Int32} : mr27 S P 8 L (.int y :: .int x :: st) sh M c s = (if x < y then mr27 S P 17 L st sh M c s else mr27 S P 11 L st sh M c s) := (propext (mv_R_iff (i := .if_icmp .lt 9) (len := 3) (ax := [17]) (by decide +kernel))).trans (q_br)
theorem e27_11 : mr27 S P 11 L st sh M c s = (q_isI (q_gv L 1) ∧ mr27 S P 12 L (q_gv L 1 :: st) sh M c s) := (propext (mv_R_iff (i := .iload_n 1) (len := 1) (ax := []) (by decide +kernel))).trans (q_ldI_eq (K := fun st => mr27 S P 12 L st sh M c s))
theorem e27_12 : mr27 S P 12 L st sh M c s = (mr27 S P 14 L (.int (nI 57) :: st) sh M c s) := propext (mv_R_iff (i := .bipush 57) (len := 2) (ax := []) (by decide +kernel))
theorem e27_14 {y : Int32} {x : Int32} : mr27 S P 14 L (.int y :: .int x :: st) sh M c s = (if x ≤ y then mr27 S P 19 L st sh M c s else mr27 S P 17 L st sh M c s) := (propext (mv_R_iff (i := .if_icmp .le 5) (len := 3) (ax := [19]) (by decide +kernel))).trans (q_br)
theorem e27_17 : mr27 S P 17 L st sh M c s = (mr27 S P 18 L (.int (Int32.ofInt (-1)) :: st) sh M c s) := propext (mv_R_iff (i := .iconst (-1)) (len := 1) (ax := []) (by decide +kernel))
theorem e27_18 {x : Int32} : mr27 S P 18 L [.int x] sh M c s = (mv_nr 0 x ∧ P (some (.int x)) sh M) := propext (mv_R_iff (i := .ireturn) (len := 1) (ax := [0]) (by decide +kernel))
theorem e27_19 : mr27 S P 19 L st sh M c s = (q_isA (q_gv L 0) ∧ mr27 S P 20 L (q_gv L 0 :: st) sh M c s) := (propext (mv_R_iff (i := .aload_n 0) (len := 1) (ax := []) (by decide +kernel))).trans (q_ldA_eq (K := fun st => mr27 S P 20 L st sh M c s))
theorem e27_20 {x : Int32} : mr27 S P 20 L (.int x :: st) sh M c s = (mr27 S P 21 L (.int x :: .int x :: st) sh M c s) := propext (mv_R_iff (i := .dup) (len := 1) (ax := []) (by decide +kernel))
theorem e27_20r {x : Nat} : mr27 S P 20 L (.ref x :: st) sh M c s = (mr27 S P 21 L (.ref x :: .ref x :: st) sh M c s) := propext (mv_R_iff (i := .dup) (len := 1) (ax := []) (by decide +kernel))
theorem e27_21 {a : Nat} : mr27 S P 21 L (.ref a :: st) sh M c s = (mv_kgf sh M a 2 2 (mr27 S P) 24 L st c s) := propext (mv_R_iff (i := .getfield 22) (len := 3) (ax := [222, 0, 2, 2]) (by decide +kernel))
theorem e27_24 : mr27 S P 24 L st sh M c s = (mr27 S P 25 L (.int (nI 1) :: st) sh M c s) := propext (mv_R_iff (i := .iconst 1) (len := 1) (ax := []) (by decide +kernel))
theorem e27_25 {y : Int32} {x : Int32} : mr27 S P 25 L (.int y :: .int x :: st) sh M c s = (mr27 S P 26 L (.int (x + y) :: st) sh M c s) := propext (mv_R_iff (i := .iadd) (len := 1) (ax := []) (by decide +kernel))
theorem e27_26 {x : Int32} {a : Nat} : mr27 S P 26 L (.int x :: .ref a :: st) sh M c s = (True ∧ mv_kpf sh M a 2 2 x (mr27 S P) 29 L st c s) := propext (mv_R_iff (i := .putfield 22) (len := 3) (ax := [222, 0, 2, 2, 0]) (by decide +kernel))
theorem e27_29 : mr27 S P 29 L st sh M c s = (q_isI (q_gv L 1) ∧ mr27 S P 30 L (q_gv L 1 :: st) sh M c s) := (propext (mv_R_iff (i := .iload_n 1) (len := 1) (ax := []) (by decide +kernel))).trans (q_ldI_eq (K := fun st => mr27 S P 30 L st sh M c s))
theorem e27_30 : mr27 S P 30 L st sh M c s = (mr27 S P 32 L (.int (nI 48) :: st) sh M c s) := propext (mv_R_iff (i := .bipush 48) (len := 2) (ax := []) (by decide +kernel))
theorem e27_32 {y : Int32} {x : Int32} : mr27 S P 32 L (.int y :: .int x :: st) sh M c s = (mr27 S P 33 L (.int (x - y) :: st) sh M c s) := propext (mv_R_iff (i := .isub) (len := 1) (ax := []) (by decide +kernel))
theorem e27_33 {x : Int32} : mr27 S P 33 L [.int x] sh M c s = (mv_nr 0 x ∧ P (some (.int x)) sh M) := propext (mv_R_iff (i := .ireturn) (len := 1) (ax := [0]) (by decide +kernel))
-- 28: Reader.readNumber()I
def mk28 : mv_Cd := [
  (0, .aload_n 0, 1, []),
  (1, .invokevirtual 57, 3, [0, 27, 1, 2, 0, 0, 0, 444, 446, 7, 110, 447]),
  (4, .istore_n 1, 1, []),
  (5, .iload_n 1, 1, []),
  (6, .ifCond .ge 7, 3, [13]),
  (9, .iconst (-1), 1, []),
  (10, .goto 7, 3, [17]),
  (13, .aload_n 0, 1, []),
  (14, .invokevirtual 57, 3, [0, 27, 1, 2, 0, 0, 0, 444, 446, 7, 110, 447]),
  (17, .istore_n 2, 1, []),
  (18, .iload_n 2, 1, []),
  (19, .ifCond .ge 7, 3, [26]),
  (22, .iload_n 1, 1, []),
  (23, .goto 9, 3, [32]),
  (26, .iload_n 1, 1, []),
  (27, .bipush 10, 2, []),
  (29, .imul, 1, []),
  (30, .iload_n 2, 1, []),
  (31, .iadd, 1, []),
  (32, .ireturn, 1, [0])]
def mr28 (S : Nat → mv_Sp) (P : mv_Post) : mv_Kt := mv_R mv_DF mk28 S (0, 0) P
theorem e28_0 : mr28 S P 0 L st sh M c s = (q_isA (q_gv L 0) ∧ mr28 S P 1 L (q_gv L 0 :: st) sh M c s) := (propext (mv_R_iff (i := .aload_n 0) (len := 1) (ax := []) (by decide +kernel))).trans (q_ldA_eq (K := fun st => mr28 S P 1 L st sh M c s))
theorem e28_1 {v1 : Value} : mr28 S P 1 L (v1 :: st) sh M c s = (mv_ss st ≤ 8 ∧ c ≤ 0 ∧ s ≤ 0 ∧ mv_isO sh (some v1) 2 ∧ mv_kal S 27 [v1] sh M (mr28 S P) 4 L st c s) := (propext (mv_R_iff (i := .invokevirtual 57) (len := 3) (ax := [0, 27, 1, 2, 0, 0, 0, 444, 446, 7, 110, 447]) (by decide +kernel))).trans (q_call0)
theorem e28_4 {x : Int32} : mr28 S P 4 L (.int x :: st) sh M c s = (q_hs L 1 ∧ mr28 S P 5 (L.set 1 (some (.int x))) st sh M c s) := (propext (mv_R_iff (i := .istore_n 1) (len := 1) (ax := []) (by decide +kernel))).trans (q_st_eq (K := fun L => mr28 S P 5 L st sh M c s))
theorem e28_5 : mr28 S P 5 L st sh M c s = (q_isI (q_gv L 1) ∧ mr28 S P 6 L (q_gv L 1 :: st) sh M c s) := (propext (mv_R_iff (i := .iload_n 1) (len := 1) (ax := []) (by decide +kernel))).trans (q_ldI_eq (K := fun st => mr28 S P 6 L st sh M c s))
theorem e28_6 {x : Int32} : mr28 S P 6 L (.int x :: st) sh M c s = (if nI 0 ≤ x then mr28 S P 13 L st sh M c s else mr28 S P 9 L st sh M c s) := (propext (mv_R_iff (i := .ifCond .ge 7) (len := 3) (ax := [13]) (by decide +kernel))).trans (q_br)
theorem e28_9 : mr28 S P 9 L st sh M c s = (mr28 S P 10 L (.int (Int32.ofInt (-1)) :: st) sh M c s) := propext (mv_R_iff (i := .iconst (-1)) (len := 1) (ax := []) (by decide +kernel))
theorem e28_10 : mr28 S P 10 L st sh M c s = (mr28 S P 17 L st sh M c s) := propext (mv_R_iff (i := .goto 7) (len := 3) (ax := [17]) (by decide +kernel))
theorem e28_13 : mr28 S P 13 L st sh M c s = (q_isA (q_gv L 0) ∧ mr28 S P 14 L (q_gv L 0 :: st) sh M c s) := (propext (mv_R_iff (i := .aload_n 0) (len := 1) (ax := []) (by decide +kernel))).trans (q_ldA_eq (K := fun st => mr28 S P 14 L st sh M c s))
theorem e28_14 {v1 : Value} : mr28 S P 14 L (v1 :: st) sh M c s = (mv_ss st ≤ 8 ∧ c ≤ 0 ∧ s ≤ 0 ∧ mv_isO sh (some v1) 2 ∧ mv_kal S 27 [v1] sh M (mr28 S P) 17 L st c s) := (propext (mv_R_iff (i := .invokevirtual 57) (len := 3) (ax := [0, 27, 1, 2, 0, 0, 0, 444, 446, 7, 110, 447]) (by decide +kernel))).trans (q_call0)
theorem e28_17 {x : Int32} : mr28 S P 17 L (.int x :: st) sh M c s = (q_hs L 2 ∧ mr28 S P 18 (L.set 2 (some (.int x))) st sh M c s) := (propext (mv_R_iff (i := .istore_n 2) (len := 1) (ax := []) (by decide +kernel))).trans (q_st_eq (K := fun L => mr28 S P 18 L st sh M c s))
theorem e28_18 : mr28 S P 18 L st sh M c s = (q_isI (q_gv L 2) ∧ mr28 S P 19 L (q_gv L 2 :: st) sh M c s) := (propext (mv_R_iff (i := .iload_n 2) (len := 1) (ax := []) (by decide +kernel))).trans (q_ldI_eq (K := fun st => mr28 S P 19 L st sh M c s))
theorem e28_19 {x : Int32} : mr28 S P 19 L (.int x :: st) sh M c s = (if nI 0 ≤ x then mr28 S P 26 L st sh M c s else mr28 S P 22 L st sh M c s) := (propext (mv_R_iff (i := .ifCond .ge 7) (len := 3) (ax := [26]) (by decide +kernel))).trans (q_br)
theorem e28_22 : mr28 S P 22 L st sh M c s = (q_isI (q_gv L 1) ∧ mr28 S P 23 L (q_gv L 1 :: st) sh M c s) := (propext (mv_R_iff (i := .iload_n 1) (len := 1) (ax := []) (by decide +kernel))).trans (q_ldI_eq (K := fun st => mr28 S P 23 L st sh M c s))
theorem e28_23 : mr28 S P 23 L st sh M c s = (mr28 S P 32 L st sh M c s) := propext (mv_R_iff (i := .goto 9) (len := 3) (ax := [32]) (by decide +kernel))
theorem e28_26 : mr28 S P 26 L st sh M c s = (q_isI (q_gv L 1) ∧ mr28 S P 27 L (q_gv L 1 :: st) sh M c s) := (propext (mv_R_iff (i := .iload_n 1) (len := 1) (ax := []) (by decide +kernel))).trans (q_ldI_eq (K := fun st => mr28 S P 27 L st sh M c s))
theorem e28_27 : mr28 S P 27 L st sh M c s = (mr28 S P 29 L (.int (nI 10) :: st) sh M c s) := propext (mv_R_iff (i := .bipush 10) (len := 2) (ax := []) (by decide +kernel))
theorem e28_29 {y : Int32} {x : Int32} : mr28 S P 29 L (.int y :: .int x :: st) sh M c s = (mr28 S P 30 L (.int (x * y) :: st) sh M c s) := propext (mv_R_iff (i := .imul) (len := 1) (ax := []) (by decide +kernel))
theorem e28_30 : mr28 S P 30 L st sh M c s = (q_isI (q_gv L 2) ∧ mr28 S P 31 L (q_gv L 2 :: st) sh M c s) := (propext (mv_R_iff (i := .iload_n 2) (len := 1) (ax := []) (by decide +kernel))).trans (q_ldI_eq (K := fun st => mr28 S P 31 L st sh M c s))
theorem e28_31 {y : Int32} {x : Int32} : mr28 S P 31 L (.int y :: .int x :: st) sh M c s = (mr28 S P 32 L (.int (x + y) :: st) sh M c s) := propext (mv_R_iff (i := .iadd) (len := 1) (ax := []) (by decide +kernel))
theorem e28_32 {x : Int32} : mr28 S P 32 L [.int x] sh M c s = (mv_nr 0 x ∧ P (some (.int x)) sh M) := propext (mv_R_iff (i := .ireturn) (len := 1) (ax := [0]) (by decide +kernel))
-- 30: Loom.findFirstAlike(II)I
def mk30 : mv_Cd := [
  (0, .iconst 0, 1, []),
  (1, .istore_n 3, 1, []),
  (2, .iload_n 3, 1, []),
  (3, .iload_n 2, 1, []),
  (4, .if_icmp .ge 26, 3, [30]),
  (7, .aload_n 0, 1, []),
  (8, .iload_n 1, 1, []),
  (9, .iload_n 3, 1, []),
  (10, .invokevirtual 60, 3, [0, 29, 3, 1, 0, 0, 0, 456, 458, 10, 109, 459]),
  (13, .aload_n 0, 1, []),
  (14, .iload_n 1, 1, []),
  (15, .iload_n 2, 1, []),
  (16, .invokevirtual 60, 3, [0, 29, 3, 1, 0, 0, 0, 456, 458, 10, 109, 459]),
  (19, .if_icmp .ne 5, 3, [24]),
  (22, .iload_n 3, 1, []),
  (23, .ireturn, 1, [0]),
  (24, .iinc 3 1, 3, []),
  (27, .goto (-25), 3, [2]),
  (30, .iload_n 2, 1, []),
  (31, .ireturn, 1, [0])]
def mr30 (S : Nat → mv_Sp) (P : mv_Post) : mv_Kt := mv_R mv_DF mk30 S (0, 0) P
theorem e30_0 : mr30 S P 0 L st sh M c s = (mr30 S P 1 L (.int (nI 0) :: st) sh M c s) := propext (mv_R_iff (i := .iconst 0) (len := 1) (ax := []) (by decide +kernel))
theorem e30_1 {x : Int32} : mr30 S P 1 L (.int x :: st) sh M c s = (q_hs L 3 ∧ mr30 S P 2 (L.set 3 (some (.int x))) st sh M c s) := (propext (mv_R_iff (i := .istore_n 3) (len := 1) (ax := []) (by decide +kernel))).trans (q_st_eq (K := fun L => mr30 S P 2 L st sh M c s))
theorem e30_2 : mr30 S P 2 L st sh M c s = (q_isI (q_gv L 3) ∧ mr30 S P 3 L (q_gv L 3 :: st) sh M c s) := (propext (mv_R_iff (i := .iload_n 3) (len := 1) (ax := []) (by decide +kernel))).trans (q_ldI_eq (K := fun st => mr30 S P 3 L st sh M c s))
theorem e30_3 : mr30 S P 3 L st sh M c s = (q_isI (q_gv L 2) ∧ mr30 S P 4 L (q_gv L 2 :: st) sh M c s) := (propext (mv_R_iff (i := .iload_n 2) (len := 1) (ax := []) (by decide +kernel))).trans (q_ldI_eq (K := fun st => mr30 S P 4 L st sh M c s))
theorem e30_4 {y : Int32} {x : Int32} : mr30 S P 4 L (.int y :: .int x :: st) sh M c s = (if y ≤ x then mr30 S P 30 L st sh M c s else mr30 S P 7 L st sh M c s) := (propext (mv_R_iff (i := .if_icmp .ge 26) (len := 3) (ax := [30]) (by decide +kernel))).trans (q_br)
theorem e30_7 : mr30 S P 7 L st sh M c s = (q_isA (q_gv L 0) ∧ mr30 S P 8 L (q_gv L 0 :: st) sh M c s) := (propext (mv_R_iff (i := .aload_n 0) (len := 1) (ax := []) (by decide +kernel))).trans (q_ldA_eq (K := fun st => mr30 S P 8 L st sh M c s))
theorem e30_8 : mr30 S P 8 L st sh M c s = (q_isI (q_gv L 1) ∧ mr30 S P 9 L (q_gv L 1 :: st) sh M c s) := (propext (mv_R_iff (i := .iload_n 1) (len := 1) (ax := []) (by decide +kernel))).trans (q_ldI_eq (K := fun st => mr30 S P 9 L st sh M c s))
theorem e30_9 : mr30 S P 9 L st sh M c s = (q_isI (q_gv L 3) ∧ mr30 S P 10 L (q_gv L 3 :: st) sh M c s) := (propext (mv_R_iff (i := .iload_n 3) (len := 1) (ax := []) (by decide +kernel))).trans (q_ldI_eq (K := fun st => mr30 S P 10 L st sh M c s))
theorem e30_10 {v3 : Value} {v2 : Value} {v1 : Value} : mr30 S P 10 L (v3 :: v2 :: v1 :: st) sh M c s = (mv_ss st ≤ 8 ∧ c ≤ 0 ∧ s ≤ 0 ∧ mv_isO sh (some v1) 1 ∧ mv_kal S 29 [v1, v2, v3] sh M (mr30 S P) 13 L st c s) := (propext (mv_R_iff (i := .invokevirtual 60) (len := 3) (ax := [0, 29, 3, 1, 0, 0, 0, 456, 458, 10, 109, 459]) (by decide +kernel))).trans (q_call0)
theorem e30_13 : mr30 S P 13 L st sh M c s = (q_isA (q_gv L 0) ∧ mr30 S P 14 L (q_gv L 0 :: st) sh M c s) := (propext (mv_R_iff (i := .aload_n 0) (len := 1) (ax := []) (by decide +kernel))).trans (q_ldA_eq (K := fun st => mr30 S P 14 L st sh M c s))
theorem e30_14 : mr30 S P 14 L st sh M c s = (q_isI (q_gv L 1) ∧ mr30 S P 15 L (q_gv L 1 :: st) sh M c s) := (propext (mv_R_iff (i := .iload_n 1) (len := 1) (ax := []) (by decide +kernel))).trans (q_ldI_eq (K := fun st => mr30 S P 15 L st sh M c s))
theorem e30_15 : mr30 S P 15 L st sh M c s = (q_isI (q_gv L 2) ∧ mr30 S P 16 L (q_gv L 2 :: st) sh M c s) := (propext (mv_R_iff (i := .iload_n 2) (len := 1) (ax := []) (by decide +kernel))).trans (q_ldI_eq (K := fun st => mr30 S P 16 L st sh M c s))
theorem e30_16 {v3 : Value} {v2 : Value} {v1 : Value} : mr30 S P 16 L (v3 :: v2 :: v1 :: st) sh M c s = (mv_ss st ≤ 8 ∧ c ≤ 0 ∧ s ≤ 0 ∧ mv_isO sh (some v1) 1 ∧ mv_kal S 29 [v1, v2, v3] sh M (mr30 S P) 19 L st c s) := (propext (mv_R_iff (i := .invokevirtual 60) (len := 3) (ax := [0, 29, 3, 1, 0, 0, 0, 456, 458, 10, 109, 459]) (by decide +kernel))).trans (q_call0)
theorem e30_19 {y : Int32} {x : Int32} : mr30 S P 19 L (.int y :: .int x :: st) sh M c s = (if x = y then mr30 S P 22 L st sh M c s else mr30 S P 24 L st sh M c s) := (propext (mv_R_iff (i := .if_icmp .ne 5) (len := 3) (ax := [24]) (by decide +kernel))).trans (q_br')
theorem e30_22 : mr30 S P 22 L st sh M c s = (q_isI (q_gv L 3) ∧ mr30 S P 23 L (q_gv L 3 :: st) sh M c s) := (propext (mv_R_iff (i := .iload_n 3) (len := 1) (ax := []) (by decide +kernel))).trans (q_ldI_eq (K := fun st => mr30 S P 23 L st sh M c s))
theorem e30_23 {x : Int32} : mr30 S P 23 L [.int x] sh M c s = (mv_nr 0 x ∧ P (some (.int x)) sh M) := propext (mv_R_iff (i := .ireturn) (len := 1) (ax := [0]) (by decide +kernel))
theorem e30_24 : mr30 S P 24 L st sh M c s = ((q_isI (q_gv L 3) ∧ q_hs L 3) ∧ mr30 S P 27 (L.set 3 (some (q_inc (q_gv L 3) (nI 1)))) st sh M c s) := (propext (mv_R_iff (i := .iinc 3 1) (len := 3) (ax := []) (by decide +kernel))).trans (q_inc_eq (K := fun L => mr30 S P 27 L st sh M c s))
theorem e30_27 : mr30 S P 27 L st sh M c s = (mr30 S P 2 L st sh M c s) := propext (mv_R_iff (i := .goto (-25)) (len := 3) (ax := [2]) (by decide +kernel))
theorem e30_30 : mr30 S P 30 L st sh M c s = (q_isI (q_gv L 2) ∧ mr30 S P 31 L (q_gv L 2 :: st) sh M c s) := (propext (mv_R_iff (i := .iload_n 2) (len := 1) (ax := []) (by decide +kernel))).trans (q_ldI_eq (K := fun st => mr30 S P 31 L st sh M c s))
theorem e30_31 {x : Int32} : mr30 S P 31 L [.int x] sh M c s = (mv_nr 0 x ∧ P (some (.int x)) sh M) := propext (mv_R_iff (i := .ireturn) (len := 1) (ax := [0]) (by decide +kernel))
-- 31: Loom.addTablet(III)Z
def mk31 : mv_Cd := [
  (0, .aload_n 0, 1, []),
  (1, .getfield 30, 3, [167, 0, 1, 0]),
  (4, .bipush 6, 2, []),
  (6, .if_icmp .lt 5, 3, [11]),
  (9, .iconst 0, 1, []),
  (10, .ireturn, 1, [1]),
  (11, .aload_n 0, 1, []),
  (12, .getfield 9, 3, [183, 0, 1, 4]),
  (15, .aload_n 0, 1, []),
  (16, .getfield 30, 3, [167, 0, 1, 0]),
  (19, .iload_n 1, 1, []),
  (20, .iastore, 1, []),
  (21, .aload_n 0, 1, []),
  (22, .getfield 15, 3, [184, 0, 1, 5]),
  (25, .aload_n 0, 1, []),
  (26, .getfield 30, 3, [167, 0, 1, 0]),
  (29, .iload_n 2, 1, []),
  (30, .iastore, 1, []),
  (31, .iload_n 3, 1, []),
  (32, .istore 4, 2, []),
  (34, .iconst 3, 1, []),
  (35, .istore 5, 2, []),
  (37, .iload 5, 2, []),
  (39, .ifCond .lt 35, 3, [74]),
  (42, .aload_n 0, 1, []),
  (43, .getfield 18, 3, [185, 0, 1, 6]),
  (46, .aload_n 0, 1, []),
  (47, .getfield 30, 3, [167, 0, 1, 0]),
  (50, .iconst 4, 1, []),
  (51, .imul, 1, []),
  (52, .iload 5, 2, []),
  (54, .iadd, 1, []),
  (55, .iload 4, 2, []),
  (57, .bipush 10, 2, []),
  (59, .irem, 1, []),
  (60, .iastore, 1, []),
  (61, .iload 4, 2, []),
  (63, .bipush 10, 2, []),
  (65, .idiv, 1, []),
  (66, .istore 4, 2, []),
  (68, .iinc 5 (-1), 3, []),
  (71, .goto (-34), 3, [37]),
  (74, .iconst 0, 1, []),
  (75, .istore 5, 2, []),
  (77, .iload 5, 2, []),
  (79, .iconst 4, 1, []),
  (80, .if_icmp .ge 33, 3, [113]),
  (83, .aload_n 0, 1, []),
  (84, .getfield 21, 3, [186, 0, 1, 7]),
  (87, .aload_n 0, 1, []),
  (88, .getfield 30, 3, [167, 0, 1, 0]),
  (91, .iconst 4, 1, []),
  (92, .imul, 1, []),
  (93, .iload 5, 2, []),
  (95, .iadd, 1, []),
  (96, .aload_n 0, 1, []),
  (97, .aload_n 0, 1, []),
  (98, .getfield 30, 3, [167, 0, 1, 0]),
  (101, .iload 5, 2, []),
  (103, .invokevirtual 56, 3, [0, 30, 3, 1, 0, 0, 0, 452, 454, 9, 109, 455]),
  (106, .iastore, 1, []),
  (107, .iinc 5 1, 3, []),
  (110, .goto (-33), 3, [77]),
  (113, .aload_n 0, 1, []),
  (114, .dup, 1, []),
  (115, .getfield 30, 3, [167, 0, 1, 0]),
  (118, .iconst 1, 1, []),
  (119, .iadd, 1, []),
  (120, .putfield 30, 3, [167, 0, 1, 0, 0]),
  (123, .iconst 1, 1, []),
  (124, .ireturn, 1, [1])]
def mr31 (S : Nat → mv_Sp) (P : mv_Post) : mv_Kt := mv_R mv_DF mk31 S (0, 0) P
theorem e31_0 : mr31 S P 0 L st sh M c s = (q_isA (q_gv L 0) ∧ mr31 S P 1 L (q_gv L 0 :: st) sh M c s) := (propext (mv_R_iff (i := .aload_n 0) (len := 1) (ax := []) (by decide +kernel))).trans (q_ldA_eq (K := fun st => mr31 S P 1 L st sh M c s))
theorem e31_1 {a : Nat} : mr31 S P 1 L (.ref a :: st) sh M c s = (mv_kgf sh M a 1 0 (mr31 S P) 4 L st c s) := propext (mv_R_iff (i := .getfield 30) (len := 3) (ax := [167, 0, 1, 0]) (by decide +kernel))
theorem e31_4 : mr31 S P 4 L st sh M c s = (mr31 S P 6 L (.int (nI 6) :: st) sh M c s) := propext (mv_R_iff (i := .bipush 6) (len := 2) (ax := []) (by decide +kernel))
theorem e31_6 {y : Int32} {x : Int32} : mr31 S P 6 L (.int y :: .int x :: st) sh M c s = (if x < y then mr31 S P 11 L st sh M c s else mr31 S P 9 L st sh M c s) := (propext (mv_R_iff (i := .if_icmp .lt 5) (len := 3) (ax := [11]) (by decide +kernel))).trans (q_br)
theorem e31_9 : mr31 S P 9 L st sh M c s = (mr31 S P 10 L (.int (nI 0) :: st) sh M c s) := propext (mv_R_iff (i := .iconst 0) (len := 1) (ax := []) (by decide +kernel))
theorem e31_10 {x : Int32} : mr31 S P 10 L [.int x] sh M c s = (mv_nr 1 x ∧ P (some (.int x)) sh M) := propext (mv_R_iff (i := .ireturn) (len := 1) (ax := [1]) (by decide +kernel))
theorem e31_11 : mr31 S P 11 L st sh M c s = (q_isA (q_gv L 0) ∧ mr31 S P 12 L (q_gv L 0 :: st) sh M c s) := (propext (mv_R_iff (i := .aload_n 0) (len := 1) (ax := []) (by decide +kernel))).trans (q_ldA_eq (K := fun st => mr31 S P 12 L st sh M c s))
theorem e31_12 {a : Nat} : mr31 S P 12 L (.ref a :: st) sh M c s = (mv_kgf sh M a 1 4 (mr31 S P) 15 L st c s) := propext (mv_R_iff (i := .getfield 9) (len := 3) (ax := [183, 0, 1, 4]) (by decide +kernel))
theorem e31_15 : mr31 S P 15 L st sh M c s = (q_isA (q_gv L 0) ∧ mr31 S P 16 L (q_gv L 0 :: st) sh M c s) := (propext (mv_R_iff (i := .aload_n 0) (len := 1) (ax := []) (by decide +kernel))).trans (q_ldA_eq (K := fun st => mr31 S P 16 L st sh M c s))
theorem e31_16 {a : Nat} : mr31 S P 16 L (.ref a :: st) sh M c s = (mv_kgf sh M a 1 0 (mr31 S P) 19 L st c s) := propext (mv_R_iff (i := .getfield 30) (len := 3) (ax := [167, 0, 1, 0]) (by decide +kernel))
theorem e31_19 : mr31 S P 19 L st sh M c s = (q_isI (q_gv L 1) ∧ mr31 S P 20 L (q_gv L 1 :: st) sh M c s) := (propext (mv_R_iff (i := .iload_n 1) (len := 1) (ax := []) (by decide +kernel))).trans (q_ldI_eq (K := fun st => mr31 S P 20 L st sh M c s))
theorem e31_20 {x : Int32} {i : Int32} {a : Nat} : mr31 S P 20 L (.int x :: .int i :: .ref a :: st) sh M c s = (mv_kst sh M a i x (mr31 S P) 21 L st c s) := propext (mv_R_iff (i := .iastore) (len := 1) (ax := []) (by decide +kernel))
theorem e31_21 : mr31 S P 21 L st sh M c s = (q_isA (q_gv L 0) ∧ mr31 S P 22 L (q_gv L 0 :: st) sh M c s) := (propext (mv_R_iff (i := .aload_n 0) (len := 1) (ax := []) (by decide +kernel))).trans (q_ldA_eq (K := fun st => mr31 S P 22 L st sh M c s))
theorem e31_22 {a : Nat} : mr31 S P 22 L (.ref a :: st) sh M c s = (mv_kgf sh M a 1 5 (mr31 S P) 25 L st c s) := propext (mv_R_iff (i := .getfield 15) (len := 3) (ax := [184, 0, 1, 5]) (by decide +kernel))
theorem e31_25 : mr31 S P 25 L st sh M c s = (q_isA (q_gv L 0) ∧ mr31 S P 26 L (q_gv L 0 :: st) sh M c s) := (propext (mv_R_iff (i := .aload_n 0) (len := 1) (ax := []) (by decide +kernel))).trans (q_ldA_eq (K := fun st => mr31 S P 26 L st sh M c s))
theorem e31_26 {a : Nat} : mr31 S P 26 L (.ref a :: st) sh M c s = (mv_kgf sh M a 1 0 (mr31 S P) 29 L st c s) := propext (mv_R_iff (i := .getfield 30) (len := 3) (ax := [167, 0, 1, 0]) (by decide +kernel))
theorem e31_29 : mr31 S P 29 L st sh M c s = (q_isI (q_gv L 2) ∧ mr31 S P 30 L (q_gv L 2 :: st) sh M c s) := (propext (mv_R_iff (i := .iload_n 2) (len := 1) (ax := []) (by decide +kernel))).trans (q_ldI_eq (K := fun st => mr31 S P 30 L st sh M c s))
theorem e31_30 {x : Int32} {i : Int32} {a : Nat} : mr31 S P 30 L (.int x :: .int i :: .ref a :: st) sh M c s = (mv_kst sh M a i x (mr31 S P) 31 L st c s) := propext (mv_R_iff (i := .iastore) (len := 1) (ax := []) (by decide +kernel))
theorem e31_31 : mr31 S P 31 L st sh M c s = (q_isI (q_gv L 3) ∧ mr31 S P 32 L (q_gv L 3 :: st) sh M c s) := (propext (mv_R_iff (i := .iload_n 3) (len := 1) (ax := []) (by decide +kernel))).trans (q_ldI_eq (K := fun st => mr31 S P 32 L st sh M c s))
theorem e31_32 {x : Int32} : mr31 S P 32 L (.int x :: st) sh M c s = (q_hs L 4 ∧ mr31 S P 34 (L.set 4 (some (.int x))) st sh M c s) := (propext (mv_R_iff (i := .istore 4) (len := 2) (ax := []) (by decide +kernel))).trans (q_st_eq (K := fun L => mr31 S P 34 L st sh M c s))
theorem e31_34 : mr31 S P 34 L st sh M c s = (mr31 S P 35 L (.int (nI 3) :: st) sh M c s) := propext (mv_R_iff (i := .iconst 3) (len := 1) (ax := []) (by decide +kernel))
theorem e31_35 {x : Int32} : mr31 S P 35 L (.int x :: st) sh M c s = (q_hs L 5 ∧ mr31 S P 37 (L.set 5 (some (.int x))) st sh M c s) := (propext (mv_R_iff (i := .istore 5) (len := 2) (ax := []) (by decide +kernel))).trans (q_st_eq (K := fun L => mr31 S P 37 L st sh M c s))
theorem e31_37 : mr31 S P 37 L st sh M c s = (q_isI (q_gv L 5) ∧ mr31 S P 39 L (q_gv L 5 :: st) sh M c s) := (propext (mv_R_iff (i := .iload 5) (len := 2) (ax := []) (by decide +kernel))).trans (q_ldI_eq (K := fun st => mr31 S P 39 L st sh M c s))
theorem e31_39 {x : Int32} : mr31 S P 39 L (.int x :: st) sh M c s = (if x < nI 0 then mr31 S P 74 L st sh M c s else mr31 S P 42 L st sh M c s) := (propext (mv_R_iff (i := .ifCond .lt 35) (len := 3) (ax := [74]) (by decide +kernel))).trans (q_br)
theorem e31_42 : mr31 S P 42 L st sh M c s = (q_isA (q_gv L 0) ∧ mr31 S P 43 L (q_gv L 0 :: st) sh M c s) := (propext (mv_R_iff (i := .aload_n 0) (len := 1) (ax := []) (by decide +kernel))).trans (q_ldA_eq (K := fun st => mr31 S P 43 L st sh M c s))
theorem e31_43 {a : Nat} : mr31 S P 43 L (.ref a :: st) sh M c s = (mv_kgf sh M a 1 6 (mr31 S P) 46 L st c s) := propext (mv_R_iff (i := .getfield 18) (len := 3) (ax := [185, 0, 1, 6]) (by decide +kernel))
theorem e31_46 : mr31 S P 46 L st sh M c s = (q_isA (q_gv L 0) ∧ mr31 S P 47 L (q_gv L 0 :: st) sh M c s) := (propext (mv_R_iff (i := .aload_n 0) (len := 1) (ax := []) (by decide +kernel))).trans (q_ldA_eq (K := fun st => mr31 S P 47 L st sh M c s))
theorem e31_47 {a : Nat} : mr31 S P 47 L (.ref a :: st) sh M c s = (mv_kgf sh M a 1 0 (mr31 S P) 50 L st c s) := propext (mv_R_iff (i := .getfield 30) (len := 3) (ax := [167, 0, 1, 0]) (by decide +kernel))
theorem e31_50 : mr31 S P 50 L st sh M c s = (mr31 S P 51 L (.int (nI 4) :: st) sh M c s) := propext (mv_R_iff (i := .iconst 4) (len := 1) (ax := []) (by decide +kernel))
theorem e31_51 {y : Int32} {x : Int32} : mr31 S P 51 L (.int y :: .int x :: st) sh M c s = (mr31 S P 52 L (.int (x * y) :: st) sh M c s) := propext (mv_R_iff (i := .imul) (len := 1) (ax := []) (by decide +kernel))
theorem e31_52 : mr31 S P 52 L st sh M c s = (q_isI (q_gv L 5) ∧ mr31 S P 54 L (q_gv L 5 :: st) sh M c s) := (propext (mv_R_iff (i := .iload 5) (len := 2) (ax := []) (by decide +kernel))).trans (q_ldI_eq (K := fun st => mr31 S P 54 L st sh M c s))
theorem e31_54 {y : Int32} {x : Int32} : mr31 S P 54 L (.int y :: .int x :: st) sh M c s = (mr31 S P 55 L (.int (x + y) :: st) sh M c s) := propext (mv_R_iff (i := .iadd) (len := 1) (ax := []) (by decide +kernel))
theorem e31_55 : mr31 S P 55 L st sh M c s = (q_isI (q_gv L 4) ∧ mr31 S P 57 L (q_gv L 4 :: st) sh M c s) := (propext (mv_R_iff (i := .iload 4) (len := 2) (ax := []) (by decide +kernel))).trans (q_ldI_eq (K := fun st => mr31 S P 57 L st sh M c s))
theorem e31_57 : mr31 S P 57 L st sh M c s = (mr31 S P 59 L (.int (nI 10) :: st) sh M c s) := propext (mv_R_iff (i := .bipush 10) (len := 2) (ax := []) (by decide +kernel))
theorem e31_59 {y : Int32} {x : Int32} : mr31 S P 59 L (.int y :: .int x :: st) sh M c s = (¬ y = nI 0 ∧ mr31 S P 60 L (.int (q_rm x y) :: st) sh M c s) := propext (mv_R_iff (i := .irem) (len := 1) (ax := []) (by decide +kernel))
theorem e31_60 {x : Int32} {i : Int32} {a : Nat} : mr31 S P 60 L (.int x :: .int i :: .ref a :: st) sh M c s = (mv_kst sh M a i x (mr31 S P) 61 L st c s) := propext (mv_R_iff (i := .iastore) (len := 1) (ax := []) (by decide +kernel))
theorem e31_61 : mr31 S P 61 L st sh M c s = (q_isI (q_gv L 4) ∧ mr31 S P 63 L (q_gv L 4 :: st) sh M c s) := (propext (mv_R_iff (i := .iload 4) (len := 2) (ax := []) (by decide +kernel))).trans (q_ldI_eq (K := fun st => mr31 S P 63 L st sh M c s))
theorem e31_63 : mr31 S P 63 L st sh M c s = (mr31 S P 65 L (.int (nI 10) :: st) sh M c s) := propext (mv_R_iff (i := .bipush 10) (len := 2) (ax := []) (by decide +kernel))
theorem e31_65 {y : Int32} {x : Int32} : mr31 S P 65 L (.int y :: .int x :: st) sh M c s = (¬ y = nI 0 ∧ mr31 S P 66 L (.int (x / y) :: st) sh M c s) := propext (mv_R_iff (i := .idiv) (len := 1) (ax := []) (by decide +kernel))
theorem e31_66 {x : Int32} : mr31 S P 66 L (.int x :: st) sh M c s = (q_hs L 4 ∧ mr31 S P 68 (L.set 4 (some (.int x))) st sh M c s) := (propext (mv_R_iff (i := .istore 4) (len := 2) (ax := []) (by decide +kernel))).trans (q_st_eq (K := fun L => mr31 S P 68 L st sh M c s))
theorem e31_68 : mr31 S P 68 L st sh M c s = ((q_isI (q_gv L 5) ∧ q_hs L 5) ∧ mr31 S P 71 (L.set 5 (some (q_inc (q_gv L 5) (Int32.ofInt (-1))))) st sh M c s) := (propext (mv_R_iff (i := .iinc 5 (-1)) (len := 3) (ax := []) (by decide +kernel))).trans (q_inc_eq (K := fun L => mr31 S P 71 L st sh M c s))
theorem e31_71 : mr31 S P 71 L st sh M c s = (mr31 S P 37 L st sh M c s) := propext (mv_R_iff (i := .goto (-34)) (len := 3) (ax := [37]) (by decide +kernel))
theorem e31_74 : mr31 S P 74 L st sh M c s = (mr31 S P 75 L (.int (nI 0) :: st) sh M c s) := propext (mv_R_iff (i := .iconst 0) (len := 1) (ax := []) (by decide +kernel))
theorem e31_75 {x : Int32} : mr31 S P 75 L (.int x :: st) sh M c s = (q_hs L 5 ∧ mr31 S P 77 (L.set 5 (some (.int x))) st sh M c s) := (propext (mv_R_iff (i := .istore 5) (len := 2) (ax := []) (by decide +kernel))).trans (q_st_eq (K := fun L => mr31 S P 77 L st sh M c s))
theorem e31_77 : mr31 S P 77 L st sh M c s = (q_isI (q_gv L 5) ∧ mr31 S P 79 L (q_gv L 5 :: st) sh M c s) := (propext (mv_R_iff (i := .iload 5) (len := 2) (ax := []) (by decide +kernel))).trans (q_ldI_eq (K := fun st => mr31 S P 79 L st sh M c s))
theorem e31_79 : mr31 S P 79 L st sh M c s = (mr31 S P 80 L (.int (nI 4) :: st) sh M c s) := propext (mv_R_iff (i := .iconst 4) (len := 1) (ax := []) (by decide +kernel))
theorem e31_80 {y : Int32} {x : Int32} : mr31 S P 80 L (.int y :: .int x :: st) sh M c s = (if y ≤ x then mr31 S P 113 L st sh M c s else mr31 S P 83 L st sh M c s) := (propext (mv_R_iff (i := .if_icmp .ge 33) (len := 3) (ax := [113]) (by decide +kernel))).trans (q_br)
theorem e31_83 : mr31 S P 83 L st sh M c s = (q_isA (q_gv L 0) ∧ mr31 S P 84 L (q_gv L 0 :: st) sh M c s) := (propext (mv_R_iff (i := .aload_n 0) (len := 1) (ax := []) (by decide +kernel))).trans (q_ldA_eq (K := fun st => mr31 S P 84 L st sh M c s))
theorem e31_84 {a : Nat} : mr31 S P 84 L (.ref a :: st) sh M c s = (mv_kgf sh M a 1 7 (mr31 S P) 87 L st c s) := propext (mv_R_iff (i := .getfield 21) (len := 3) (ax := [186, 0, 1, 7]) (by decide +kernel))
theorem e31_87 : mr31 S P 87 L st sh M c s = (q_isA (q_gv L 0) ∧ mr31 S P 88 L (q_gv L 0 :: st) sh M c s) := (propext (mv_R_iff (i := .aload_n 0) (len := 1) (ax := []) (by decide +kernel))).trans (q_ldA_eq (K := fun st => mr31 S P 88 L st sh M c s))
theorem e31_88 {a : Nat} : mr31 S P 88 L (.ref a :: st) sh M c s = (mv_kgf sh M a 1 0 (mr31 S P) 91 L st c s) := propext (mv_R_iff (i := .getfield 30) (len := 3) (ax := [167, 0, 1, 0]) (by decide +kernel))
theorem e31_91 : mr31 S P 91 L st sh M c s = (mr31 S P 92 L (.int (nI 4) :: st) sh M c s) := propext (mv_R_iff (i := .iconst 4) (len := 1) (ax := []) (by decide +kernel))
theorem e31_92 {y : Int32} {x : Int32} : mr31 S P 92 L (.int y :: .int x :: st) sh M c s = (mr31 S P 93 L (.int (x * y) :: st) sh M c s) := propext (mv_R_iff (i := .imul) (len := 1) (ax := []) (by decide +kernel))
theorem e31_93 : mr31 S P 93 L st sh M c s = (q_isI (q_gv L 5) ∧ mr31 S P 95 L (q_gv L 5 :: st) sh M c s) := (propext (mv_R_iff (i := .iload 5) (len := 2) (ax := []) (by decide +kernel))).trans (q_ldI_eq (K := fun st => mr31 S P 95 L st sh M c s))
theorem e31_95 {y : Int32} {x : Int32} : mr31 S P 95 L (.int y :: .int x :: st) sh M c s = (mr31 S P 96 L (.int (x + y) :: st) sh M c s) := propext (mv_R_iff (i := .iadd) (len := 1) (ax := []) (by decide +kernel))
theorem e31_96 : mr31 S P 96 L st sh M c s = (q_isA (q_gv L 0) ∧ mr31 S P 97 L (q_gv L 0 :: st) sh M c s) := (propext (mv_R_iff (i := .aload_n 0) (len := 1) (ax := []) (by decide +kernel))).trans (q_ldA_eq (K := fun st => mr31 S P 97 L st sh M c s))
theorem e31_97 : mr31 S P 97 L st sh M c s = (q_isA (q_gv L 0) ∧ mr31 S P 98 L (q_gv L 0 :: st) sh M c s) := (propext (mv_R_iff (i := .aload_n 0) (len := 1) (ax := []) (by decide +kernel))).trans (q_ldA_eq (K := fun st => mr31 S P 98 L st sh M c s))
theorem e31_98 {a : Nat} : mr31 S P 98 L (.ref a :: st) sh M c s = (mv_kgf sh M a 1 0 (mr31 S P) 101 L st c s) := propext (mv_R_iff (i := .getfield 30) (len := 3) (ax := [167, 0, 1, 0]) (by decide +kernel))
theorem e31_101 : mr31 S P 101 L st sh M c s = (q_isI (q_gv L 5) ∧ mr31 S P 103 L (q_gv L 5 :: st) sh M c s) := (propext (mv_R_iff (i := .iload 5) (len := 2) (ax := []) (by decide +kernel))).trans (q_ldI_eq (K := fun st => mr31 S P 103 L st sh M c s))
theorem e31_103 {v3 : Value} {v2 : Value} {v1 : Value} : mr31 S P 103 L (v3 :: v2 :: v1 :: st) sh M c s = (mv_ss st ≤ 8 ∧ c ≤ 0 ∧ s ≤ 0 ∧ mv_isO sh (some v1) 1 ∧ mv_kal S 30 [v1, v2, v3] sh M (mr31 S P) 106 L st c s) := (propext (mv_R_iff (i := .invokevirtual 56) (len := 3) (ax := [0, 30, 3, 1, 0, 0, 0, 452, 454, 9, 109, 455]) (by decide +kernel))).trans (q_call0)
theorem e31_106 {x : Int32} {i : Int32} {a : Nat} : mr31 S P 106 L (.int x :: .int i :: .ref a :: st) sh M c s = (mv_kst sh M a i x (mr31 S P) 107 L st c s) := propext (mv_R_iff (i := .iastore) (len := 1) (ax := []) (by decide +kernel))
theorem e31_107 : mr31 S P 107 L st sh M c s = ((q_isI (q_gv L 5) ∧ q_hs L 5) ∧ mr31 S P 110 (L.set 5 (some (q_inc (q_gv L 5) (nI 1)))) st sh M c s) := (propext (mv_R_iff (i := .iinc 5 1) (len := 3) (ax := []) (by decide +kernel))).trans (q_inc_eq (K := fun L => mr31 S P 110 L st sh M c s))
theorem e31_110 : mr31 S P 110 L st sh M c s = (mr31 S P 77 L st sh M c s) := propext (mv_R_iff (i := .goto (-33)) (len := 3) (ax := [77]) (by decide +kernel))
theorem e31_113 : mr31 S P 113 L st sh M c s = (q_isA (q_gv L 0) ∧ mr31 S P 114 L (q_gv L 0 :: st) sh M c s) := (propext (mv_R_iff (i := .aload_n 0) (len := 1) (ax := []) (by decide +kernel))).trans (q_ldA_eq (K := fun st => mr31 S P 114 L st sh M c s))
theorem e31_114 {x : Int32} : mr31 S P 114 L (.int x :: st) sh M c s = (mr31 S P 115 L (.int x :: .int x :: st) sh M c s) := propext (mv_R_iff (i := .dup) (len := 1) (ax := []) (by decide +kernel))
theorem e31_114r {x : Nat} : mr31 S P 114 L (.ref x :: st) sh M c s = (mr31 S P 115 L (.ref x :: .ref x :: st) sh M c s) := propext (mv_R_iff (i := .dup) (len := 1) (ax := []) (by decide +kernel))
theorem e31_115 {a : Nat} : mr31 S P 115 L (.ref a :: st) sh M c s = (mv_kgf sh M a 1 0 (mr31 S P) 118 L st c s) := propext (mv_R_iff (i := .getfield 30) (len := 3) (ax := [167, 0, 1, 0]) (by decide +kernel))
theorem e31_118 : mr31 S P 118 L st sh M c s = (mr31 S P 119 L (.int (nI 1) :: st) sh M c s) := propext (mv_R_iff (i := .iconst 1) (len := 1) (ax := []) (by decide +kernel))
theorem e31_119 {y : Int32} {x : Int32} : mr31 S P 119 L (.int y :: .int x :: st) sh M c s = (mr31 S P 120 L (.int (x + y) :: st) sh M c s) := propext (mv_R_iff (i := .iadd) (len := 1) (ax := []) (by decide +kernel))
theorem e31_120 {x : Int32} {a : Nat} : mr31 S P 120 L (.int x :: .ref a :: st) sh M c s = (True ∧ mv_kpf sh M a 1 0 x (mr31 S P) 123 L st c s) := propext (mv_R_iff (i := .putfield 30) (len := 3) (ax := [167, 0, 1, 0, 0]) (by decide +kernel))
theorem e31_123 : mr31 S P 123 L st sh M c s = (mr31 S P 124 L (.int (nI 1) :: st) sh M c s) := propext (mv_R_iff (i := .iconst 1) (len := 1) (ax := []) (by decide +kernel))
theorem e31_124 {x : Int32} : mr31 S P 124 L [.int x] sh M c s = (mv_nr 1 x ∧ P (some (.int x)) sh M) := propext (mv_R_iff (i := .ireturn) (len := 1) (ax := [1]) (by decide +kernel))
-- 33: Loom.addPack(I)Z
def mk33 : mv_Cd := [
  (0, .aload_n 0, 1, []),
  (1, .getfield 34, 3, [173, 0, 1, 1]),
  (4, .bipush 6, 2, []),
  (6, .if_icmp .lt 5, 3, [11]),
  (9, .iconst 0, 1, []),
  (10, .ireturn, 1, [1]),
  (11, .aload_n 0, 1, []),
  (12, .getfield 24, 3, [187, 0, 1, 8]),
  (15, .aload_n 0, 1, []),
  (16, .getfield 34, 3, [173, 0, 1, 1]),
  (19, .iload_n 1, 1, []),
  (20, .iastore, 1, []),
  (21, .aload_n 0, 1, []),
  (22, .dup, 1, []),
  (23, .getfield 34, 3, [173, 0, 1, 1]),
  (26, .iconst 1, 1, []),
  (27, .iadd, 1, []),
  (28, .putfield 34, 3, [173, 0, 1, 1, 0]),
  (31, .iconst 1, 1, []),
  (32, .ireturn, 1, [1])]
def mr33 (S : Nat → mv_Sp) (P : mv_Post) : mv_Kt := mv_R mv_DF mk33 S (0, 0) P
theorem e33_0 : mr33 S P 0 L st sh M c s = (q_isA (q_gv L 0) ∧ mr33 S P 1 L (q_gv L 0 :: st) sh M c s) := (propext (mv_R_iff (i := .aload_n 0) (len := 1) (ax := []) (by decide +kernel))).trans (q_ldA_eq (K := fun st => mr33 S P 1 L st sh M c s))
theorem e33_1 {a : Nat} : mr33 S P 1 L (.ref a :: st) sh M c s = (mv_kgf sh M a 1 1 (mr33 S P) 4 L st c s) := propext (mv_R_iff (i := .getfield 34) (len := 3) (ax := [173, 0, 1, 1]) (by decide +kernel))
theorem e33_4 : mr33 S P 4 L st sh M c s = (mr33 S P 6 L (.int (nI 6) :: st) sh M c s) := propext (mv_R_iff (i := .bipush 6) (len := 2) (ax := []) (by decide +kernel))
theorem e33_6 {y : Int32} {x : Int32} : mr33 S P 6 L (.int y :: .int x :: st) sh M c s = (if x < y then mr33 S P 11 L st sh M c s else mr33 S P 9 L st sh M c s) := (propext (mv_R_iff (i := .if_icmp .lt 5) (len := 3) (ax := [11]) (by decide +kernel))).trans (q_br)
theorem e33_9 : mr33 S P 9 L st sh M c s = (mr33 S P 10 L (.int (nI 0) :: st) sh M c s) := propext (mv_R_iff (i := .iconst 0) (len := 1) (ax := []) (by decide +kernel))
theorem e33_10 {x : Int32} : mr33 S P 10 L [.int x] sh M c s = (mv_nr 1 x ∧ P (some (.int x)) sh M) := propext (mv_R_iff (i := .ireturn) (len := 1) (ax := [1]) (by decide +kernel))
theorem e33_11 : mr33 S P 11 L st sh M c s = (q_isA (q_gv L 0) ∧ mr33 S P 12 L (q_gv L 0 :: st) sh M c s) := (propext (mv_R_iff (i := .aload_n 0) (len := 1) (ax := []) (by decide +kernel))).trans (q_ldA_eq (K := fun st => mr33 S P 12 L st sh M c s))
theorem e33_12 {a : Nat} : mr33 S P 12 L (.ref a :: st) sh M c s = (mv_kgf sh M a 1 8 (mr33 S P) 15 L st c s) := propext (mv_R_iff (i := .getfield 24) (len := 3) (ax := [187, 0, 1, 8]) (by decide +kernel))
theorem e33_15 : mr33 S P 15 L st sh M c s = (q_isA (q_gv L 0) ∧ mr33 S P 16 L (q_gv L 0 :: st) sh M c s) := (propext (mv_R_iff (i := .aload_n 0) (len := 1) (ax := []) (by decide +kernel))).trans (q_ldA_eq (K := fun st => mr33 S P 16 L st sh M c s))
theorem e33_16 {a : Nat} : mr33 S P 16 L (.ref a :: st) sh M c s = (mv_kgf sh M a 1 1 (mr33 S P) 19 L st c s) := propext (mv_R_iff (i := .getfield 34) (len := 3) (ax := [173, 0, 1, 1]) (by decide +kernel))
theorem e33_19 : mr33 S P 19 L st sh M c s = (q_isI (q_gv L 1) ∧ mr33 S P 20 L (q_gv L 1 :: st) sh M c s) := (propext (mv_R_iff (i := .iload_n 1) (len := 1) (ax := []) (by decide +kernel))).trans (q_ldI_eq (K := fun st => mr33 S P 20 L st sh M c s))
theorem e33_20 {x : Int32} {i : Int32} {a : Nat} : mr33 S P 20 L (.int x :: .int i :: .ref a :: st) sh M c s = (mv_kst sh M a i x (mr33 S P) 21 L st c s) := propext (mv_R_iff (i := .iastore) (len := 1) (ax := []) (by decide +kernel))
theorem e33_21 : mr33 S P 21 L st sh M c s = (q_isA (q_gv L 0) ∧ mr33 S P 22 L (q_gv L 0 :: st) sh M c s) := (propext (mv_R_iff (i := .aload_n 0) (len := 1) (ax := []) (by decide +kernel))).trans (q_ldA_eq (K := fun st => mr33 S P 22 L st sh M c s))
theorem e33_22 {x : Int32} : mr33 S P 22 L (.int x :: st) sh M c s = (mr33 S P 23 L (.int x :: .int x :: st) sh M c s) := propext (mv_R_iff (i := .dup) (len := 1) (ax := []) (by decide +kernel))
theorem e33_22r {x : Nat} : mr33 S P 22 L (.ref x :: st) sh M c s = (mr33 S P 23 L (.ref x :: .ref x :: st) sh M c s) := propext (mv_R_iff (i := .dup) (len := 1) (ax := []) (by decide +kernel))
theorem e33_23 {a : Nat} : mr33 S P 23 L (.ref a :: st) sh M c s = (mv_kgf sh M a 1 1 (mr33 S P) 26 L st c s) := propext (mv_R_iff (i := .getfield 34) (len := 3) (ax := [173, 0, 1, 1]) (by decide +kernel))
theorem e33_26 : mr33 S P 26 L st sh M c s = (mr33 S P 27 L (.int (nI 1) :: st) sh M c s) := propext (mv_R_iff (i := .iconst 1) (len := 1) (ax := []) (by decide +kernel))
theorem e33_27 {y : Int32} {x : Int32} : mr33 S P 27 L (.int y :: .int x :: st) sh M c s = (mr33 S P 28 L (.int (x + y) :: st) sh M c s) := propext (mv_R_iff (i := .iadd) (len := 1) (ax := []) (by decide +kernel))
theorem e33_28 {x : Int32} {a : Nat} : mr33 S P 28 L (.int x :: .ref a :: st) sh M c s = (True ∧ mv_kpf sh M a 1 1 x (mr33 S P) 31 L st c s) := propext (mv_R_iff (i := .putfield 34) (len := 3) (ax := [173, 0, 1, 1, 0]) (by decide +kernel))
theorem e33_31 : mr33 S P 31 L st sh M c s = (mr33 S P 32 L (.int (nI 1) :: st) sh M c s) := propext (mv_R_iff (i := .iconst 1) (len := 1) (ax := []) (by decide +kernel))
theorem e33_32 {x : Int32} : mr33 S P 32 L [.int x] sh M c s = (mv_nr 1 x ∧ P (some (.int x)) sh M) := propext (mv_R_iff (i := .ireturn) (len := 1) (ax := [1]) (by decide +kernel))
-- 36: Reader.wayOf(I)I
def mk36 : mv_Cd := [
  (0, .iload_n 0, 1, []),
  (1, .bipush 102, 2, []),
  (3, .if_icmp .ne 5, 3, [8]),
  (6, .iconst 0, 1, []),
  (7, .ireturn, 1, [0]),
  (8, .iload_n 0, 1, []),
  (9, .bipush 98, 2, []),
  (11, .if_icmp .ne 7, 3, [18]),
  (14, .iconst 1, 1, []),
  (15, .goto 4, 3, [19]),
  (18, .iconst (-1), 1, []),
  (19, .ireturn, 1, [0])]
def mr36 (S : Nat → mv_Sp) (P : mv_Post) : mv_Kt := mv_R mv_DF mk36 S (0, 0) P
theorem e36_0 : mr36 S P 0 L st sh M c s = (q_isI (q_gv L 0) ∧ mr36 S P 1 L (q_gv L 0 :: st) sh M c s) := (propext (mv_R_iff (i := .iload_n 0) (len := 1) (ax := []) (by decide +kernel))).trans (q_ldI_eq (K := fun st => mr36 S P 1 L st sh M c s))
theorem e36_1 : mr36 S P 1 L st sh M c s = (mr36 S P 3 L (.int (nI 102) :: st) sh M c s) := propext (mv_R_iff (i := .bipush 102) (len := 2) (ax := []) (by decide +kernel))
theorem e36_3 {y : Int32} {x : Int32} : mr36 S P 3 L (.int y :: .int x :: st) sh M c s = (if x = y then mr36 S P 6 L st sh M c s else mr36 S P 8 L st sh M c s) := (propext (mv_R_iff (i := .if_icmp .ne 5) (len := 3) (ax := [8]) (by decide +kernel))).trans (q_br')
theorem e36_6 : mr36 S P 6 L st sh M c s = (mr36 S P 7 L (.int (nI 0) :: st) sh M c s) := propext (mv_R_iff (i := .iconst 0) (len := 1) (ax := []) (by decide +kernel))
theorem e36_7 {x : Int32} : mr36 S P 7 L [.int x] sh M c s = (mv_nr 0 x ∧ P (some (.int x)) sh M) := propext (mv_R_iff (i := .ireturn) (len := 1) (ax := [0]) (by decide +kernel))
theorem e36_8 : mr36 S P 8 L st sh M c s = (q_isI (q_gv L 0) ∧ mr36 S P 9 L (q_gv L 0 :: st) sh M c s) := (propext (mv_R_iff (i := .iload_n 0) (len := 1) (ax := []) (by decide +kernel))).trans (q_ldI_eq (K := fun st => mr36 S P 9 L st sh M c s))
theorem e36_9 : mr36 S P 9 L st sh M c s = (mr36 S P 11 L (.int (nI 98) :: st) sh M c s) := propext (mv_R_iff (i := .bipush 98) (len := 2) (ax := []) (by decide +kernel))
theorem e36_11 {y : Int32} {x : Int32} : mr36 S P 11 L (.int y :: .int x :: st) sh M c s = (if x = y then mr36 S P 14 L st sh M c s else mr36 S P 18 L st sh M c s) := (propext (mv_R_iff (i := .if_icmp .ne 7) (len := 3) (ax := [18]) (by decide +kernel))).trans (q_br')
theorem e36_14 : mr36 S P 14 L st sh M c s = (mr36 S P 15 L (.int (nI 1) :: st) sh M c s) := propext (mv_R_iff (i := .iconst 1) (len := 1) (ax := []) (by decide +kernel))
theorem e36_15 : mr36 S P 15 L st sh M c s = (mr36 S P 19 L st sh M c s) := propext (mv_R_iff (i := .goto 4) (len := 3) (ax := [19]) (by decide +kernel))
theorem e36_18 : mr36 S P 18 L st sh M c s = (mr36 S P 19 L (.int (Int32.ofInt (-1)) :: st) sh M c s) := propext (mv_R_iff (i := .iconst (-1)) (len := 1) (ax := []) (by decide +kernel))
theorem e36_19 {x : Int32} : mr36 S P 19 L [.int x] sh M c s = (mv_nr 0 x ∧ P (some (.int x)) sh M) := propext (mv_R_iff (i := .ireturn) (len := 1) (ax := [0]) (by decide +kernel))
-- 37: Loom.addPick(II)Z
def mk37 : mv_Cd := [
  (0, .aload_n 0, 1, []),
  (1, .getfield 37, 3, [176, 0, 1, 2]),
  (4, .bipush 8, 2, []),
  (6, .if_icmp .lt 5, 3, [11]),
  (9, .iconst 0, 1, []),
  (10, .ireturn, 1, [1]),
  (11, .aload_n 0, 1, []),
  (12, .getfield 27, 3, [188, 0, 1, 9]),
  (15, .aload_n 0, 1, []),
  (16, .getfield 37, 3, [176, 0, 1, 2]),
  (19, .bipush 10, 2, []),
  (21, .iload_n 1, 1, []),
  (22, .imul, 1, []),
  (23, .iload_n 2, 1, []),
  (24, .iadd, 1, []),
  (25, .iastore, 1, []),
  (26, .aload_n 0, 1, []),
  (27, .dup, 1, []),
  (28, .getfield 37, 3, [176, 0, 1, 2]),
  (31, .iconst 1, 1, []),
  (32, .iadd, 1, []),
  (33, .putfield 37, 3, [176, 0, 1, 2, 0]),
  (36, .iconst 1, 1, []),
  (37, .ireturn, 1, [1])]
def mr37 (S : Nat → mv_Sp) (P : mv_Post) : mv_Kt := mv_R mv_DF mk37 S (0, 0) P
theorem e37_0 : mr37 S P 0 L st sh M c s = (q_isA (q_gv L 0) ∧ mr37 S P 1 L (q_gv L 0 :: st) sh M c s) := (propext (mv_R_iff (i := .aload_n 0) (len := 1) (ax := []) (by decide +kernel))).trans (q_ldA_eq (K := fun st => mr37 S P 1 L st sh M c s))
theorem e37_1 {a : Nat} : mr37 S P 1 L (.ref a :: st) sh M c s = (mv_kgf sh M a 1 2 (mr37 S P) 4 L st c s) := propext (mv_R_iff (i := .getfield 37) (len := 3) (ax := [176, 0, 1, 2]) (by decide +kernel))
theorem e37_4 : mr37 S P 4 L st sh M c s = (mr37 S P 6 L (.int (nI 8) :: st) sh M c s) := propext (mv_R_iff (i := .bipush 8) (len := 2) (ax := []) (by decide +kernel))
theorem e37_6 {y : Int32} {x : Int32} : mr37 S P 6 L (.int y :: .int x :: st) sh M c s = (if x < y then mr37 S P 11 L st sh M c s else mr37 S P 9 L st sh M c s) := (propext (mv_R_iff (i := .if_icmp .lt 5) (len := 3) (ax := [11]) (by decide +kernel))).trans (q_br)
theorem e37_9 : mr37 S P 9 L st sh M c s = (mr37 S P 10 L (.int (nI 0) :: st) sh M c s) := propext (mv_R_iff (i := .iconst 0) (len := 1) (ax := []) (by decide +kernel))
theorem e37_10 {x : Int32} : mr37 S P 10 L [.int x] sh M c s = (mv_nr 1 x ∧ P (some (.int x)) sh M) := propext (mv_R_iff (i := .ireturn) (len := 1) (ax := [1]) (by decide +kernel))
theorem e37_11 : mr37 S P 11 L st sh M c s = (q_isA (q_gv L 0) ∧ mr37 S P 12 L (q_gv L 0 :: st) sh M c s) := (propext (mv_R_iff (i := .aload_n 0) (len := 1) (ax := []) (by decide +kernel))).trans (q_ldA_eq (K := fun st => mr37 S P 12 L st sh M c s))
theorem e37_12 {a : Nat} : mr37 S P 12 L (.ref a :: st) sh M c s = (mv_kgf sh M a 1 9 (mr37 S P) 15 L st c s) := propext (mv_R_iff (i := .getfield 27) (len := 3) (ax := [188, 0, 1, 9]) (by decide +kernel))
theorem e37_15 : mr37 S P 15 L st sh M c s = (q_isA (q_gv L 0) ∧ mr37 S P 16 L (q_gv L 0 :: st) sh M c s) := (propext (mv_R_iff (i := .aload_n 0) (len := 1) (ax := []) (by decide +kernel))).trans (q_ldA_eq (K := fun st => mr37 S P 16 L st sh M c s))
theorem e37_16 {a : Nat} : mr37 S P 16 L (.ref a :: st) sh M c s = (mv_kgf sh M a 1 2 (mr37 S P) 19 L st c s) := propext (mv_R_iff (i := .getfield 37) (len := 3) (ax := [176, 0, 1, 2]) (by decide +kernel))
theorem e37_19 : mr37 S P 19 L st sh M c s = (mr37 S P 21 L (.int (nI 10) :: st) sh M c s) := propext (mv_R_iff (i := .bipush 10) (len := 2) (ax := []) (by decide +kernel))
theorem e37_21 : mr37 S P 21 L st sh M c s = (q_isI (q_gv L 1) ∧ mr37 S P 22 L (q_gv L 1 :: st) sh M c s) := (propext (mv_R_iff (i := .iload_n 1) (len := 1) (ax := []) (by decide +kernel))).trans (q_ldI_eq (K := fun st => mr37 S P 22 L st sh M c s))
theorem e37_22 {y : Int32} {x : Int32} : mr37 S P 22 L (.int y :: .int x :: st) sh M c s = (mr37 S P 23 L (.int (x * y) :: st) sh M c s) := propext (mv_R_iff (i := .imul) (len := 1) (ax := []) (by decide +kernel))
theorem e37_23 : mr37 S P 23 L st sh M c s = (q_isI (q_gv L 2) ∧ mr37 S P 24 L (q_gv L 2 :: st) sh M c s) := (propext (mv_R_iff (i := .iload_n 2) (len := 1) (ax := []) (by decide +kernel))).trans (q_ldI_eq (K := fun st => mr37 S P 24 L st sh M c s))
theorem e37_24 {y : Int32} {x : Int32} : mr37 S P 24 L (.int y :: .int x :: st) sh M c s = (mr37 S P 25 L (.int (x + y) :: st) sh M c s) := propext (mv_R_iff (i := .iadd) (len := 1) (ax := []) (by decide +kernel))
theorem e37_25 {x : Int32} {i : Int32} {a : Nat} : mr37 S P 25 L (.int x :: .int i :: .ref a :: st) sh M c s = (mv_kst sh M a i x (mr37 S P) 26 L st c s) := propext (mv_R_iff (i := .iastore) (len := 1) (ax := []) (by decide +kernel))
theorem e37_26 : mr37 S P 26 L st sh M c s = (q_isA (q_gv L 0) ∧ mr37 S P 27 L (q_gv L 0 :: st) sh M c s) := (propext (mv_R_iff (i := .aload_n 0) (len := 1) (ax := []) (by decide +kernel))).trans (q_ldA_eq (K := fun st => mr37 S P 27 L st sh M c s))
theorem e37_27 {x : Int32} : mr37 S P 27 L (.int x :: st) sh M c s = (mr37 S P 28 L (.int x :: .int x :: st) sh M c s) := propext (mv_R_iff (i := .dup) (len := 1) (ax := []) (by decide +kernel))
theorem e37_27r {x : Nat} : mr37 S P 27 L (.ref x :: st) sh M c s = (mr37 S P 28 L (.ref x :: .ref x :: st) sh M c s) := propext (mv_R_iff (i := .dup) (len := 1) (ax := []) (by decide +kernel))
theorem e37_28 {a : Nat} : mr37 S P 28 L (.ref a :: st) sh M c s = (mv_kgf sh M a 1 2 (mr37 S P) 31 L st c s) := propext (mv_R_iff (i := .getfield 37) (len := 3) (ax := [176, 0, 1, 2]) (by decide +kernel))
theorem e37_31 : mr37 S P 31 L st sh M c s = (mr37 S P 32 L (.int (nI 1) :: st) sh M c s) := propext (mv_R_iff (i := .iconst 1) (len := 1) (ax := []) (by decide +kernel))
theorem e37_32 {y : Int32} {x : Int32} : mr37 S P 32 L (.int y :: .int x :: st) sh M c s = (mr37 S P 33 L (.int (x + y) :: st) sh M c s) := propext (mv_R_iff (i := .iadd) (len := 1) (ax := []) (by decide +kernel))
theorem e37_33 {x : Int32} {a : Nat} : mr37 S P 33 L (.int x :: .ref a :: st) sh M c s = (True ∧ mv_kpf sh M a 1 2 x (mr37 S P) 36 L st c s) := propext (mv_R_iff (i := .putfield 37) (len := 3) (ax := [176, 0, 1, 2, 0]) (by decide +kernel))
theorem e37_36 : mr37 S P 36 L st sh M c s = (mr37 S P 37 L (.int (nI 1) :: st) sh M c s) := propext (mv_R_iff (i := .iconst 1) (len := 1) (ax := []) (by decide +kernel))
theorem e37_37 {x : Int32} : mr37 S P 37 L [.int x] sh M c s = (mv_nr 1 x ∧ P (some (.int x)) sh M) := propext (mv_R_iff (i := .ireturn) (len := 1) (ax := [1]) (by decide +kernel))
-- 42: Arrays.fill([II)V
def mk42 : mv_Cd := [
  (0, .iconst 0, 1, []),
  (1, .istore_n 2, 1, []),
  (2, .aload_n 0, 1, []),
  (3, .arraylength, 1, []),
  (4, .istore_n 3, 1, []),
  (5, .iload_n 2, 1, []),
  (6, .iload_n 3, 1, []),
  (7, .if_icmp .ge 13, 3, [20]),
  (10, .aload_n 0, 1, []),
  (11, .iload_n 2, 1, []),
  (12, .iload_n 1, 1, []),
  (13, .iastore, 1, []),
  (14, .iinc 2 1, 3, []),
  (17, .goto (-12), 3, [5]),
  (20, .return_, 1, [])]
def mr42 (S : Nat → mv_Sp) (P : mv_Post) : mv_Kt := mv_R mv_DF mk42 S (0, 0) P
theorem e42_0 : mr42 S P 0 L st sh M c s = (mr42 S P 1 L (.int (nI 0) :: st) sh M c s) := propext (mv_R_iff (i := .iconst 0) (len := 1) (ax := []) (by decide +kernel))
theorem e42_1 {x : Int32} : mr42 S P 1 L (.int x :: st) sh M c s = (q_hs L 2 ∧ mr42 S P 2 (L.set 2 (some (.int x))) st sh M c s) := (propext (mv_R_iff (i := .istore_n 2) (len := 1) (ax := []) (by decide +kernel))).trans (q_st_eq (K := fun L => mr42 S P 2 L st sh M c s))
theorem e42_2 : mr42 S P 2 L st sh M c s = (q_isA (q_gv L 0) ∧ mr42 S P 3 L (q_gv L 0 :: st) sh M c s) := (propext (mv_R_iff (i := .aload_n 0) (len := 1) (ax := []) (by decide +kernel))).trans (q_ldA_eq (K := fun st => mr42 S P 3 L st sh M c s))
theorem e42_3 {a : Nat} : mr42 S P 3 L (.ref a :: st) sh M c s = (mv_kln sh M a (mr42 S P) 4 L st c s) := propext (mv_R_iff (i := .arraylength) (len := 1) (ax := []) (by decide +kernel))
theorem e42_4 {x : Int32} : mr42 S P 4 L (.int x :: st) sh M c s = (q_hs L 3 ∧ mr42 S P 5 (L.set 3 (some (.int x))) st sh M c s) := (propext (mv_R_iff (i := .istore_n 3) (len := 1) (ax := []) (by decide +kernel))).trans (q_st_eq (K := fun L => mr42 S P 5 L st sh M c s))
theorem e42_5 : mr42 S P 5 L st sh M c s = (q_isI (q_gv L 2) ∧ mr42 S P 6 L (q_gv L 2 :: st) sh M c s) := (propext (mv_R_iff (i := .iload_n 2) (len := 1) (ax := []) (by decide +kernel))).trans (q_ldI_eq (K := fun st => mr42 S P 6 L st sh M c s))
theorem e42_6 : mr42 S P 6 L st sh M c s = (q_isI (q_gv L 3) ∧ mr42 S P 7 L (q_gv L 3 :: st) sh M c s) := (propext (mv_R_iff (i := .iload_n 3) (len := 1) (ax := []) (by decide +kernel))).trans (q_ldI_eq (K := fun st => mr42 S P 7 L st sh M c s))
theorem e42_7 {y : Int32} {x : Int32} : mr42 S P 7 L (.int y :: .int x :: st) sh M c s = (if y ≤ x then mr42 S P 20 L st sh M c s else mr42 S P 10 L st sh M c s) := (propext (mv_R_iff (i := .if_icmp .ge 13) (len := 3) (ax := [20]) (by decide +kernel))).trans (q_br)
theorem e42_10 : mr42 S P 10 L st sh M c s = (q_isA (q_gv L 0) ∧ mr42 S P 11 L (q_gv L 0 :: st) sh M c s) := (propext (mv_R_iff (i := .aload_n 0) (len := 1) (ax := []) (by decide +kernel))).trans (q_ldA_eq (K := fun st => mr42 S P 11 L st sh M c s))
theorem e42_11 : mr42 S P 11 L st sh M c s = (q_isI (q_gv L 2) ∧ mr42 S P 12 L (q_gv L 2 :: st) sh M c s) := (propext (mv_R_iff (i := .iload_n 2) (len := 1) (ax := []) (by decide +kernel))).trans (q_ldI_eq (K := fun st => mr42 S P 12 L st sh M c s))
theorem e42_12 : mr42 S P 12 L st sh M c s = (q_isI (q_gv L 1) ∧ mr42 S P 13 L (q_gv L 1 :: st) sh M c s) := (propext (mv_R_iff (i := .iload_n 1) (len := 1) (ax := []) (by decide +kernel))).trans (q_ldI_eq (K := fun st => mr42 S P 13 L st sh M c s))
theorem e42_13 {x : Int32} {i : Int32} {a : Nat} : mr42 S P 13 L (.int x :: .int i :: .ref a :: st) sh M c s = (mv_kst sh M a i x (mr42 S P) 14 L st c s) := propext (mv_R_iff (i := .iastore) (len := 1) (ax := []) (by decide +kernel))
theorem e42_14 : mr42 S P 14 L st sh M c s = ((q_isI (q_gv L 2) ∧ q_hs L 2) ∧ mr42 S P 17 (L.set 2 (some (q_inc (q_gv L 2) (nI 1)))) st sh M c s) := (propext (mv_R_iff (i := .iinc 2 1) (len := 3) (ax := []) (by decide +kernel))).trans (q_inc_eq (K := fun L => mr42 S P 17 L st sh M c s))
theorem e42_17 : mr42 S P 17 L st sh M c s = (mr42 S P 5 L st sh M c s) := propext (mv_R_iff (i := .goto (-12)) (len := 3) (ax := [5]) (by decide +kernel))
theorem e42_20 : mr42 S P 20 L [] sh M c s = (P none sh M) := propext (mv_R_iff (i := .return_) (len := 1) (ax := []) (by decide +kernel))
-- 47: AbstractStringBuilder.isLatin1()Z
def mk47 : mv_Cd := [
  (0, .getstatic 18, 3, [138, 0]),
  (3, .ifCond .eq 14, 3, [17]),
  (6, .aload_n 0, 1, []),
  (7, .getfield 22, 3, [148, 0, 6, 1]),
  (10, .ifCond .ne 7, 3, [17]),
  (13, .iconst 1, 1, []),
  (14, .goto 4, 3, [18]),
  (17, .iconst 0, 1, []),
  (18, .ireturn, 1, [1])]
def mr47 (S : Nat → mv_Sp) (P : mv_Post) : mv_Kt := mv_R mv_DF mk47 S (0, 0) P
theorem e47_0 : mr47 S P 0 L st sh M c s = (mr47 S P 3 L (.int (nI 1) :: st) sh M c s) := propext (mv_R_iff (i := .getstatic 18) (len := 3) (ax := [138, 0]) (by decide +kernel))
theorem e47_3 {x : Int32} : mr47 S P 3 L (.int x :: st) sh M c s = (if x = nI 0 then mr47 S P 17 L st sh M c s else mr47 S P 6 L st sh M c s) := (propext (mv_R_iff (i := .ifCond .eq 14) (len := 3) (ax := [17]) (by decide +kernel))).trans (q_br)
theorem e47_6 : mr47 S P 6 L st sh M c s = (q_isA (q_gv L 0) ∧ mr47 S P 7 L (q_gv L 0 :: st) sh M c s) := (propext (mv_R_iff (i := .aload_n 0) (len := 1) (ax := []) (by decide +kernel))).trans (q_ldA_eq (K := fun st => mr47 S P 7 L st sh M c s))
theorem e47_7 {a : Nat} : mr47 S P 7 L (.ref a :: st) sh M c s = (mv_kgf sh M a 6 1 (mr47 S P) 10 L st c s) := propext (mv_R_iff (i := .getfield 22) (len := 3) (ax := [148, 0, 6, 1]) (by decide +kernel))
theorem e47_10 {x : Int32} : mr47 S P 10 L (.int x :: st) sh M c s = (if x = nI 0 then mr47 S P 13 L st sh M c s else mr47 S P 17 L st sh M c s) := (propext (mv_R_iff (i := .ifCond .ne 7) (len := 3) (ax := [17]) (by decide +kernel))).trans (q_br')
theorem e47_13 : mr47 S P 13 L st sh M c s = (mr47 S P 14 L (.int (nI 1) :: st) sh M c s) := propext (mv_R_iff (i := .iconst 1) (len := 1) (ax := []) (by decide +kernel))
theorem e47_14 : mr47 S P 14 L st sh M c s = (mr47 S P 18 L st sh M c s) := propext (mv_R_iff (i := .goto 4) (len := 3) (ax := [18]) (by decide +kernel))
theorem e47_17 : mr47 S P 17 L st sh M c s = (mr47 S P 18 L (.int (nI 0) :: st) sh M c s) := propext (mv_R_iff (i := .iconst 0) (len := 1) (ax := []) (by decide +kernel))
theorem e47_18 {x : Int32} : mr47 S P 18 L [.int x] sh M c s = (mv_nr 1 x ∧ P (some (.int x)) sh M) := propext (mv_R_iff (i := .ireturn) (len := 1) (ax := [1]) (by decide +kernel))
-- 12: AbstractStringBuilder.ensureCapacityInternal(I)V
def mk12 : mv_Cd := [
  (0, .aload_n 0, 1, []),
  (1, .getfield 15, 3, [147, 0, 6, 0]),
  (4, .arraylength, 1, []),
  (5, .aload_n 0, 1, []),
  (6, .getfield 22, 3, [148, 0, 6, 1]),
  (9, .ishr, 1, []),
  (10, .istore_n 2, 1, []),
  (11, .iload_n 1, 1, []),
  (12, .iload_n 2, 1, []),
  (13, .isub, 1, []),
  (14, .ifCond .le 24, 3, [38]),
  (17, .aload_n 0, 1, []),
  (18, .aload_n 0, 1, []),
  (19, .getfield 15, 3, [147, 0, 6, 0]),
  (22, .aload_n 0, 1, []),
  (23, .iload_n 1, 1, []),
  (24, .invokevirtual 104, 3, [0, 10, 2, 6, 0, 0, 0, 283, 285, 1405, 105, 286]),
  (27, .aload_n 0, 1, []),
  (28, .getfield 22, 3, [148, 0, 6, 1]),
  (31, .ishl, 1, []),
  (32, .invokestatic 108, 3, [3, 11, 2, 0, 1, 96, 0, 298, 299, 115, 300]),
  (35, .putfield 15, 3, [147, 0, 6, 0, 3]),
  (38, .return_, 1, [])]
def mr12 (S : Nat → mv_Sp) (P : mv_Post) : mv_Kt := mv_R mv_DF mk12 S (1, 96) P
theorem e12_0 : mr12 S P 0 L st sh M c s = (q_isA (q_gv L 0) ∧ mr12 S P 1 L (q_gv L 0 :: st) sh M c s) := (propext (mv_R_iff (i := .aload_n 0) (len := 1) (ax := []) (by decide +kernel))).trans (q_ldA_eq (K := fun st => mr12 S P 1 L st sh M c s))
theorem e12_1 {a : Nat} : mr12 S P 1 L (.ref a :: st) sh M c s = (mv_kgf sh M a 6 0 (mr12 S P) 4 L st c s) := propext (mv_R_iff (i := .getfield 15) (len := 3) (ax := [147, 0, 6, 0]) (by decide +kernel))
theorem e12_4 {a : Nat} : mr12 S P 4 L (.ref a :: st) sh M c s = (mv_kln sh M a (mr12 S P) 5 L st c s) := propext (mv_R_iff (i := .arraylength) (len := 1) (ax := []) (by decide +kernel))
theorem e12_5 : mr12 S P 5 L st sh M c s = (q_isA (q_gv L 0) ∧ mr12 S P 6 L (q_gv L 0 :: st) sh M c s) := (propext (mv_R_iff (i := .aload_n 0) (len := 1) (ax := []) (by decide +kernel))).trans (q_ldA_eq (K := fun st => mr12 S P 6 L st sh M c s))
theorem e12_6 {a : Nat} : mr12 S P 6 L (.ref a :: st) sh M c s = (mv_kgf sh M a 6 1 (mr12 S P) 9 L st c s) := propext (mv_R_iff (i := .getfield 22) (len := 3) (ax := [148, 0, 6, 1]) (by decide +kernel))
theorem e12_9 {y : Int32} {x : Int32} : mr12 S P 9 L (.int y :: .int x :: st) sh M c s = (mr12 S P 10 L (.int (x >>> (y &&& 31)) :: st) sh M c s) := propext (mv_R_iff (i := .ishr) (len := 1) (ax := []) (by decide +kernel))
theorem e12_10 {x : Int32} : mr12 S P 10 L (.int x :: st) sh M c s = (q_hs L 2 ∧ mr12 S P 11 (L.set 2 (some (.int x))) st sh M c s) := (propext (mv_R_iff (i := .istore_n 2) (len := 1) (ax := []) (by decide +kernel))).trans (q_st_eq (K := fun L => mr12 S P 11 L st sh M c s))
theorem e12_11 : mr12 S P 11 L st sh M c s = (q_isI (q_gv L 1) ∧ mr12 S P 12 L (q_gv L 1 :: st) sh M c s) := (propext (mv_R_iff (i := .iload_n 1) (len := 1) (ax := []) (by decide +kernel))).trans (q_ldI_eq (K := fun st => mr12 S P 12 L st sh M c s))
theorem e12_12 : mr12 S P 12 L st sh M c s = (q_isI (q_gv L 2) ∧ mr12 S P 13 L (q_gv L 2 :: st) sh M c s) := (propext (mv_R_iff (i := .iload_n 2) (len := 1) (ax := []) (by decide +kernel))).trans (q_ldI_eq (K := fun st => mr12 S P 13 L st sh M c s))
theorem e12_13 {y : Int32} {x : Int32} : mr12 S P 13 L (.int y :: .int x :: st) sh M c s = (mr12 S P 14 L (.int (x - y) :: st) sh M c s) := propext (mv_R_iff (i := .isub) (len := 1) (ax := []) (by decide +kernel))
theorem e12_14 {x : Int32} : mr12 S P 14 L (.int x :: st) sh M c s = (if x ≤ nI 0 then mr12 S P 38 L st sh M c s else mr12 S P 17 L st sh M c s) := (propext (mv_R_iff (i := .ifCond .le 24) (len := 3) (ax := [38]) (by decide +kernel))).trans (q_br)
theorem e12_17 : mr12 S P 17 L st sh M c s = (q_isA (q_gv L 0) ∧ mr12 S P 18 L (q_gv L 0 :: st) sh M c s) := (propext (mv_R_iff (i := .aload_n 0) (len := 1) (ax := []) (by decide +kernel))).trans (q_ldA_eq (K := fun st => mr12 S P 18 L st sh M c s))
theorem e12_18 : mr12 S P 18 L st sh M c s = (q_isA (q_gv L 0) ∧ mr12 S P 19 L (q_gv L 0 :: st) sh M c s) := (propext (mv_R_iff (i := .aload_n 0) (len := 1) (ax := []) (by decide +kernel))).trans (q_ldA_eq (K := fun st => mr12 S P 19 L st sh M c s))
theorem e12_19 {a : Nat} : mr12 S P 19 L (.ref a :: st) sh M c s = (mv_kgf sh M a 6 0 (mr12 S P) 22 L st c s) := propext (mv_R_iff (i := .getfield 15) (len := 3) (ax := [147, 0, 6, 0]) (by decide +kernel))
theorem e12_22 : mr12 S P 22 L st sh M c s = (q_isA (q_gv L 0) ∧ mr12 S P 23 L (q_gv L 0 :: st) sh M c s) := (propext (mv_R_iff (i := .aload_n 0) (len := 1) (ax := []) (by decide +kernel))).trans (q_ldA_eq (K := fun st => mr12 S P 23 L st sh M c s))
theorem e12_23 : mr12 S P 23 L st sh M c s = (q_isI (q_gv L 1) ∧ mr12 S P 24 L (q_gv L 1 :: st) sh M c s) := (propext (mv_R_iff (i := .iload_n 1) (len := 1) (ax := []) (by decide +kernel))).trans (q_ldI_eq (K := fun st => mr12 S P 24 L st sh M c s))
theorem e12_24 {v2 : Value} {v1 : Value} : mr12 S P 24 L (v2 :: v1 :: st) sh M c s = (mv_ss st ≤ 8 ∧ c ≤ 1 ∧ s ≤ 96 ∧ mv_isO sh (some v1) 6 ∧ mv_kal S 10 [v1, v2] sh M (mr12 S P) 27 L st c s) := (propext (mv_R_iff (i := .invokevirtual 104) (len := 3) (ax := [0, 10, 2, 6, 0, 0, 0, 283, 285, 1405, 105, 286]) (by decide +kernel))).trans (q_call0)
theorem e12_27 : mr12 S P 27 L st sh M c s = (q_isA (q_gv L 0) ∧ mr12 S P 28 L (q_gv L 0 :: st) sh M c s) := (propext (mv_R_iff (i := .aload_n 0) (len := 1) (ax := []) (by decide +kernel))).trans (q_ldA_eq (K := fun st => mr12 S P 28 L st sh M c s))
theorem e12_28 {a : Nat} : mr12 S P 28 L (.ref a :: st) sh M c s = (mv_kgf sh M a 6 1 (mr12 S P) 31 L st c s) := propext (mv_R_iff (i := .getfield 22) (len := 3) (ax := [148, 0, 6, 1]) (by decide +kernel))
theorem e12_31 {y : Int32} {x : Int32} : mr12 S P 31 L (.int y :: .int x :: st) sh M c s = (mr12 S P 32 L (.int (x <<< (y &&& 31)) :: st) sh M c s) := propext (mv_R_iff (i := .ishl) (len := 1) (ax := []) (by decide +kernel))
theorem e12_32 {v2 : Value} {v1 : Value} : mr12 S P 32 L (v2 :: v1 :: st) sh M c s = (mv_ss st ≤ 8 ∧ c + 1 ≤ 1 ∧ s + 96 ≤ 96 ∧ True ∧ mv_kal S 11 [v1, v2] sh M (mr12 S P) 35 L st (c + 1) (s + 96)) := (propext (mv_R_iff (i := .invokestatic 108) (len := 3) (ax := [3, 11, 2, 0, 1, 96, 0, 298, 299, 115, 300]) (by decide +kernel))).trans (q_call3)
theorem e12_35 {x : Nat} {a : Nat} : mr12 S P 35 L (.ref x :: .ref a :: st) sh M c s = (mv_kpr sh M a 6 0 x (mr12 S P) 38 L st c s) := (propext (mv_R_iff (i := .putfield 15) (len := 3) (ax := [147, 0, 6, 0, 3]) (by decide +kernel))).trans (q_tt)
theorem e12_38 : mr12 S P 38 L [] sh M c s = (P none sh M) := propext (mv_R_iff (i := .return_) (len := 1) (ax := []) (by decide +kernel))
-- 48: AbstractStringBuilder.setLength(I)V (not here: [4, 9, 12, 42, 57])
def mk48 : mv_Cd := [
  (0, .iload_n 1, 1, []),
  (1, .ifCond .ge 12, 3, [13]),
  (13, .aload_n 0, 1, []),
  (14, .iload_n 1, 1, []),
  (15, .invokevirtual 100, 3, [0, 12, 2, 6, 1, 96, 0, 279, 281, 1404, 105, 282]),
  (18, .aload_n 0, 1, []),
  (19, .getfield 79, 3, [150, 0, 6, 3]),
  (22, .iload_n 1, 1, []),
  (23, .if_icmp .ge 40, 3, [63]),
  (26, .aload_n 0, 1, []),
  (27, .invokevirtual 83, 3, [0, 47, 1, 6, 0, 0, 0, 314, 315, 317, 105, 318]),
  (30, .ifCond .eq 18, 3, [48]),
  (33, .aload_n 0, 1, []),
  (34, .getfield 15, 3, [147, 0, 6, 0]),
  (37, .aload_n 0, 1, []),
  (38, .getfield 79, 3, [150, 0, 6, 3]),
  (41, .iload_n 1, 1, []),
  (48, .aload_n 0, 1, []),
  (49, .getfield 15, 3, [147, 0, 6, 0]),
  (52, .aload_n 0, 1, []),
  (53, .getfield 79, 3, [150, 0, 6, 3]),
  (56, .iload_n 1, 1, []),
  (63, .aload_n 0, 1, []),
  (64, .getfield 79, 3, [150, 0, 6, 3]),
  (67, .iload_n 1, 1, []),
  (68, .if_icmp .le 8, 3, [76]),
  (71, .aload_n 0, 1, []),
  (72, .iconst 1, 1, []),
  (73, .putfield 73, 3, [149, 0, 6, 2, 1]),
  (76, .aload_n 0, 1, []),
  (77, .iload_n 1, 1, []),
  (78, .putfield 79, 3, [150, 0, 6, 3, 0]),
  (81, .return_, 1, [])]
def mr48 (S : Nat → mv_Sp) (P : mv_Post) : mv_Kt := mv_R mv_DF mk48 S (1, 96) P
theorem e48_0 : mr48 S P 0 L st sh M c s = (q_isI (q_gv L 1) ∧ mr48 S P 1 L (q_gv L 1 :: st) sh M c s) := (propext (mv_R_iff (i := .iload_n 1) (len := 1) (ax := []) (by decide +kernel))).trans (q_ldI_eq (K := fun st => mr48 S P 1 L st sh M c s))
theorem e48_1 {x : Int32} : mr48 S P 1 L (.int x :: st) sh M c s = (if nI 0 ≤ x then mr48 S P 13 L st sh M c s else mr48 S P 4 L st sh M c s) := (propext (mv_R_iff (i := .ifCond .ge 12) (len := 3) (ax := [13]) (by decide +kernel))).trans (q_br)
theorem e48_13 : mr48 S P 13 L st sh M c s = (q_isA (q_gv L 0) ∧ mr48 S P 14 L (q_gv L 0 :: st) sh M c s) := (propext (mv_R_iff (i := .aload_n 0) (len := 1) (ax := []) (by decide +kernel))).trans (q_ldA_eq (K := fun st => mr48 S P 14 L st sh M c s))
theorem e48_14 : mr48 S P 14 L st sh M c s = (q_isI (q_gv L 1) ∧ mr48 S P 15 L (q_gv L 1 :: st) sh M c s) := (propext (mv_R_iff (i := .iload_n 1) (len := 1) (ax := []) (by decide +kernel))).trans (q_ldI_eq (K := fun st => mr48 S P 15 L st sh M c s))
theorem e48_15 {v2 : Value} {v1 : Value} : mr48 S P 15 L (v2 :: v1 :: st) sh M c s = (mv_ss st ≤ 8 ∧ c + 1 ≤ 1 ∧ s + 96 ≤ 96 ∧ mv_isO sh (some v1) 6 ∧ mv_kal S 12 [v1, v2] sh M (mr48 S P) 18 L st (c + 1) (s + 96)) := (propext (mv_R_iff (i := .invokevirtual 100) (len := 3) (ax := [0, 12, 2, 6, 1, 96, 0, 279, 281, 1404, 105, 282]) (by decide +kernel))).trans (q_call0)
theorem e48_18 : mr48 S P 18 L st sh M c s = (q_isA (q_gv L 0) ∧ mr48 S P 19 L (q_gv L 0 :: st) sh M c s) := (propext (mv_R_iff (i := .aload_n 0) (len := 1) (ax := []) (by decide +kernel))).trans (q_ldA_eq (K := fun st => mr48 S P 19 L st sh M c s))
theorem e48_19 {a : Nat} : mr48 S P 19 L (.ref a :: st) sh M c s = (mv_kgf sh M a 6 3 (mr48 S P) 22 L st c s) := propext (mv_R_iff (i := .getfield 79) (len := 3) (ax := [150, 0, 6, 3]) (by decide +kernel))
theorem e48_22 : mr48 S P 22 L st sh M c s = (q_isI (q_gv L 1) ∧ mr48 S P 23 L (q_gv L 1 :: st) sh M c s) := (propext (mv_R_iff (i := .iload_n 1) (len := 1) (ax := []) (by decide +kernel))).trans (q_ldI_eq (K := fun st => mr48 S P 23 L st sh M c s))
theorem e48_23 {y : Int32} {x : Int32} : mr48 S P 23 L (.int y :: .int x :: st) sh M c s = (if y ≤ x then mr48 S P 63 L st sh M c s else mr48 S P 26 L st sh M c s) := (propext (mv_R_iff (i := .if_icmp .ge 40) (len := 3) (ax := [63]) (by decide +kernel))).trans (q_br)
theorem e48_26 : mr48 S P 26 L st sh M c s = (q_isA (q_gv L 0) ∧ mr48 S P 27 L (q_gv L 0 :: st) sh M c s) := (propext (mv_R_iff (i := .aload_n 0) (len := 1) (ax := []) (by decide +kernel))).trans (q_ldA_eq (K := fun st => mr48 S P 27 L st sh M c s))
theorem e48_27 {v1 : Value} : mr48 S P 27 L (v1 :: st) sh M c s = (mv_ss st ≤ 8 ∧ c ≤ 1 ∧ s ≤ 96 ∧ mv_isO sh (some v1) 6 ∧ mv_kal S 47 [v1] sh M (mr48 S P) 30 L st c s) := (propext (mv_R_iff (i := .invokevirtual 83) (len := 3) (ax := [0, 47, 1, 6, 0, 0, 0, 314, 315, 317, 105, 318]) (by decide +kernel))).trans (q_call0)
theorem e48_30 {x : Int32} : mr48 S P 30 L (.int x :: st) sh M c s = (if x = nI 0 then mr48 S P 48 L st sh M c s else mr48 S P 33 L st sh M c s) := (propext (mv_R_iff (i := .ifCond .eq 18) (len := 3) (ax := [48]) (by decide +kernel))).trans (q_br)
theorem e48_33 : mr48 S P 33 L st sh M c s = (q_isA (q_gv L 0) ∧ mr48 S P 34 L (q_gv L 0 :: st) sh M c s) := (propext (mv_R_iff (i := .aload_n 0) (len := 1) (ax := []) (by decide +kernel))).trans (q_ldA_eq (K := fun st => mr48 S P 34 L st sh M c s))
theorem e48_34 {a : Nat} : mr48 S P 34 L (.ref a :: st) sh M c s = (mv_kgf sh M a 6 0 (mr48 S P) 37 L st c s) := propext (mv_R_iff (i := .getfield 15) (len := 3) (ax := [147, 0, 6, 0]) (by decide +kernel))
theorem e48_37 : mr48 S P 37 L st sh M c s = (q_isA (q_gv L 0) ∧ mr48 S P 38 L (q_gv L 0 :: st) sh M c s) := (propext (mv_R_iff (i := .aload_n 0) (len := 1) (ax := []) (by decide +kernel))).trans (q_ldA_eq (K := fun st => mr48 S P 38 L st sh M c s))
theorem e48_38 {a : Nat} : mr48 S P 38 L (.ref a :: st) sh M c s = (mv_kgf sh M a 6 3 (mr48 S P) 41 L st c s) := propext (mv_R_iff (i := .getfield 79) (len := 3) (ax := [150, 0, 6, 3]) (by decide +kernel))
theorem e48_41 : mr48 S P 41 L st sh M c s = (q_isI (q_gv L 1) ∧ mr48 S P 42 L (q_gv L 1 :: st) sh M c s) := (propext (mv_R_iff (i := .iload_n 1) (len := 1) (ax := []) (by decide +kernel))).trans (q_ldI_eq (K := fun st => mr48 S P 42 L st sh M c s))
theorem e48_48 : mr48 S P 48 L st sh M c s = (q_isA (q_gv L 0) ∧ mr48 S P 49 L (q_gv L 0 :: st) sh M c s) := (propext (mv_R_iff (i := .aload_n 0) (len := 1) (ax := []) (by decide +kernel))).trans (q_ldA_eq (K := fun st => mr48 S P 49 L st sh M c s))
theorem e48_49 {a : Nat} : mr48 S P 49 L (.ref a :: st) sh M c s = (mv_kgf sh M a 6 0 (mr48 S P) 52 L st c s) := propext (mv_R_iff (i := .getfield 15) (len := 3) (ax := [147, 0, 6, 0]) (by decide +kernel))
theorem e48_52 : mr48 S P 52 L st sh M c s = (q_isA (q_gv L 0) ∧ mr48 S P 53 L (q_gv L 0 :: st) sh M c s) := (propext (mv_R_iff (i := .aload_n 0) (len := 1) (ax := []) (by decide +kernel))).trans (q_ldA_eq (K := fun st => mr48 S P 53 L st sh M c s))
theorem e48_53 {a : Nat} : mr48 S P 53 L (.ref a :: st) sh M c s = (mv_kgf sh M a 6 3 (mr48 S P) 56 L st c s) := propext (mv_R_iff (i := .getfield 79) (len := 3) (ax := [150, 0, 6, 3]) (by decide +kernel))
theorem e48_56 : mr48 S P 56 L st sh M c s = (q_isI (q_gv L 1) ∧ mr48 S P 57 L (q_gv L 1 :: st) sh M c s) := (propext (mv_R_iff (i := .iload_n 1) (len := 1) (ax := []) (by decide +kernel))).trans (q_ldI_eq (K := fun st => mr48 S P 57 L st sh M c s))
theorem e48_63 : mr48 S P 63 L st sh M c s = (q_isA (q_gv L 0) ∧ mr48 S P 64 L (q_gv L 0 :: st) sh M c s) := (propext (mv_R_iff (i := .aload_n 0) (len := 1) (ax := []) (by decide +kernel))).trans (q_ldA_eq (K := fun st => mr48 S P 64 L st sh M c s))
theorem e48_64 {a : Nat} : mr48 S P 64 L (.ref a :: st) sh M c s = (mv_kgf sh M a 6 3 (mr48 S P) 67 L st c s) := propext (mv_R_iff (i := .getfield 79) (len := 3) (ax := [150, 0, 6, 3]) (by decide +kernel))
theorem e48_67 : mr48 S P 67 L st sh M c s = (q_isI (q_gv L 1) ∧ mr48 S P 68 L (q_gv L 1 :: st) sh M c s) := (propext (mv_R_iff (i := .iload_n 1) (len := 1) (ax := []) (by decide +kernel))).trans (q_ldI_eq (K := fun st => mr48 S P 68 L st sh M c s))
theorem e48_68 {y : Int32} {x : Int32} : mr48 S P 68 L (.int y :: .int x :: st) sh M c s = (if x ≤ y then mr48 S P 76 L st sh M c s else mr48 S P 71 L st sh M c s) := (propext (mv_R_iff (i := .if_icmp .le 8) (len := 3) (ax := [76]) (by decide +kernel))).trans (q_br)
theorem e48_71 : mr48 S P 71 L st sh M c s = (q_isA (q_gv L 0) ∧ mr48 S P 72 L (q_gv L 0 :: st) sh M c s) := (propext (mv_R_iff (i := .aload_n 0) (len := 1) (ax := []) (by decide +kernel))).trans (q_ldA_eq (K := fun st => mr48 S P 72 L st sh M c s))
theorem e48_72 : mr48 S P 72 L st sh M c s = (mr48 S P 73 L (.int (nI 1) :: st) sh M c s) := propext (mv_R_iff (i := .iconst 1) (len := 1) (ax := []) (by decide +kernel))
theorem e48_73 {x : Int32} {a : Nat} : mr48 S P 73 L (.int x :: .ref a :: st) sh M c s = ((x = nI 0 ∨ x = nI 1) ∧ mv_kpf sh M a 6 2 x (mr48 S P) 76 L st c s) := propext (mv_R_iff (i := .putfield 73) (len := 3) (ax := [149, 0, 6, 2, 1]) (by decide +kernel))
theorem e48_76 : mr48 S P 76 L st sh M c s = (q_isA (q_gv L 0) ∧ mr48 S P 77 L (q_gv L 0 :: st) sh M c s) := (propext (mv_R_iff (i := .aload_n 0) (len := 1) (ax := []) (by decide +kernel))).trans (q_ldA_eq (K := fun st => mr48 S P 77 L st sh M c s))
theorem e48_77 : mr48 S P 77 L st sh M c s = (q_isI (q_gv L 1) ∧ mr48 S P 78 L (q_gv L 1 :: st) sh M c s) := (propext (mv_R_iff (i := .iload_n 1) (len := 1) (ax := []) (by decide +kernel))).trans (q_ldI_eq (K := fun st => mr48 S P 78 L st sh M c s))
theorem e48_78 {x : Int32} {a : Nat} : mr48 S P 78 L (.int x :: .ref a :: st) sh M c s = (True ∧ mv_kpf sh M a 6 3 x (mr48 S P) 81 L st c s) := propext (mv_R_iff (i := .putfield 79) (len := 3) (ax := [150, 0, 6, 3, 0]) (by decide +kernel))
theorem e48_81 : mr48 S P 81 L [] sh M c s = (P none sh M) := propext (mv_R_iff (i := .return_) (len := 1) (ax := []) (by decide +kernel))
-- 49: StringBuilder.setLength(I)V
def mk49 : mv_Cd := [
  (0, .aload_n 0, 1, []),
  (1, .iload_n 1, 1, []),
  (2, .invokespecial 333, 3, [2, 48, 2, 6, 1, 96, 0, 507, 1400, 159, 508, 105, 509]),
  (5, .return_, 1, [])]
def mr49 (S : Nat → mv_Sp) (P : mv_Post) : mv_Kt := mv_R mv_DF mk49 S (1, 96) P
theorem e49_0 : mr49 S P 0 L st sh M c s = (q_isA (q_gv L 0) ∧ mr49 S P 1 L (q_gv L 0 :: st) sh M c s) := (propext (mv_R_iff (i := .aload_n 0) (len := 1) (ax := []) (by decide +kernel))).trans (q_ldA_eq (K := fun st => mr49 S P 1 L st sh M c s))
theorem e49_1 : mr49 S P 1 L st sh M c s = (q_isI (q_gv L 1) ∧ mr49 S P 2 L (q_gv L 1 :: st) sh M c s) := (propext (mv_R_iff (i := .iload_n 1) (len := 1) (ax := []) (by decide +kernel))).trans (q_ldI_eq (K := fun st => mr49 S P 2 L st sh M c s))
theorem e49_2 {v2 : Value} {v1 : Value} : mr49 S P 2 L (v2 :: v1 :: st) sh M c s = (mv_ss st ≤ 8 ∧ c + 1 ≤ 1 ∧ s + 96 ≤ 96 ∧ mv_isO sh (some v1) 6 ∧ mv_kal S 48 [v1, v2] sh M (mr49 S P) 5 L st (c + 1) (s + 96)) := (propext (mv_R_iff (i := .invokespecial 333) (len := 3) (ax := [2, 48, 2, 6, 1, 96, 0, 507, 1400, 159, 508, 105, 509]) (by decide +kernel))).trans (q_call2)
theorem e49_5 : mr49 S P 5 L [] sh M c s = (P none sh M) := propext (mv_R_iff (i := .return_) (len := 1) (ax := []) (by decide +kernel))
-- 139: StringLatin1.canEncode(C)Z
def mk139 : mv_Cd := [
  (0, .iload_n 0, 1, []),
  (1, .sipush 255, 3, []),
  (4, .if_icmp .gt 7, 3, [11]),
  (7, .iconst 1, 1, []),
  (8, .goto 4, 3, [12]),
  (11, .iconst 0, 1, []),
  (12, .ireturn, 1, [1])]
def mr139 (S : Nat → mv_Sp) (P : mv_Post) : mv_Kt := mv_R mv_DF mk139 S (0, 0) P
theorem e139_0 : mr139 S P 0 L st sh M c s = (q_isI (q_gv L 0) ∧ mr139 S P 1 L (q_gv L 0 :: st) sh M c s) := (propext (mv_R_iff (i := .iload_n 0) (len := 1) (ax := []) (by decide +kernel))).trans (q_ldI_eq (K := fun st => mr139 S P 1 L st sh M c s))
theorem e139_1 : mr139 S P 1 L st sh M c s = (mr139 S P 4 L (.int (nI 255) :: st) sh M c s) := propext (mv_R_iff (i := .sipush 255) (len := 3) (ax := []) (by decide +kernel))
theorem e139_4 {y : Int32} {x : Int32} : mr139 S P 4 L (.int y :: .int x :: st) sh M c s = (if y < x then mr139 S P 11 L st sh M c s else mr139 S P 7 L st sh M c s) := (propext (mv_R_iff (i := .if_icmp .gt 7) (len := 3) (ax := [11]) (by decide +kernel))).trans (q_br)
theorem e139_7 : mr139 S P 7 L st sh M c s = (mr139 S P 8 L (.int (nI 1) :: st) sh M c s) := propext (mv_R_iff (i := .iconst 1) (len := 1) (ax := []) (by decide +kernel))
theorem e139_8 : mr139 S P 8 L st sh M c s = (mr139 S P 12 L st sh M c s) := propext (mv_R_iff (i := .goto 4) (len := 3) (ax := [12]) (by decide +kernel))
theorem e139_11 : mr139 S P 11 L st sh M c s = (mr139 S P 12 L (.int (nI 0) :: st) sh M c s) := propext (mv_R_iff (i := .iconst 0) (len := 1) (ax := []) (by decide +kernel))
theorem e139_12 {x : Int32} : mr139 S P 12 L [.int x] sh M c s = (mv_nr 1 x ∧ P (some (.int x)) sh M) := propext (mv_R_iff (i := .ireturn) (len := 1) (ax := [1]) (by decide +kernel))
-- 140: AbstractStringBuilder.append(C)Ljava/lang/AbstractStringBuilder; (not here: [53, 72])
def mk140 : mv_Cd := [
  (0, .aload_n 0, 1, []),
  (1, .aload_n 0, 1, []),
  (2, .getfield 79, 3, [150, 0, 6, 3]),
  (5, .iconst 1, 1, []),
  (6, .iadd, 1, []),
  (7, .invokevirtual 100, 3, [0, 12, 2, 6, 1, 96, 0, 279, 281, 1404, 105, 282]),
  (10, .aload_n 0, 1, []),
  (11, .invokevirtual 83, 3, [0, 47, 1, 6, 0, 0, 0, 314, 315, 317, 105, 318]),
  (14, .ifCond .eq 31, 3, [45]),
  (17, .iload_n 1, 1, []),
  (18, .invokestatic 191, 3, [3, 139, 1, 0, 0, 0, 0, 575, 576, 118, 577]),
  (21, .ifCond .eq 24, 3, [45]),
  (24, .aload_n 0, 1, []),
  (25, .getfield 15, 3, [147, 0, 6, 0]),
  (28, .aload_n 0, 1, []),
  (29, .dup, 1, []),
  (30, .getfield 79, 3, [150, 0, 6, 3]),
  (33, .dup_x1, 1, []),
  (34, .iconst 1, 1, []),
  (35, .iadd, 1, []),
  (36, .putfield 79, 3, [150, 0, 6, 3, 0]),
  (39, .iload_n 1, 1, []),
  (40, .i2b, 1, []),
  (41, .bastore, 1, []),
  (42, .goto 33, 3, [75]),
  (45, .aload_n 0, 1, []),
  (46, .invokevirtual 83, 3, [0, 47, 1, 6, 0, 0, 0, 314, 315, 317, 105, 318]),
  (49, .ifCond .eq 7, 3, [56]),
  (52, .aload_n 0, 1, []),
  (56, .aload_n 0, 1, []),
  (57, .getfield 15, 3, [147, 0, 6, 0]),
  (60, .aload_n 0, 1, []),
  (61, .dup, 1, []),
  (62, .getfield 79, 3, [150, 0, 6, 3]),
  (65, .dup_x1, 1, []),
  (66, .iconst 1, 1, []),
  (67, .iadd, 1, []),
  (68, .putfield 79, 3, [150, 0, 6, 3, 0]),
  (71, .iload_n 1, 1, []),
  (75, .aload_n 0, 1, []),
  (76, .areturn, 1, [])]
def mr140 (S : Nat → mv_Sp) (P : mv_Post) : mv_Kt := mv_R mv_DF mk140 S (1, 96) P
theorem e140_0 : mr140 S P 0 L st sh M c s = (q_isA (q_gv L 0) ∧ mr140 S P 1 L (q_gv L 0 :: st) sh M c s) := (propext (mv_R_iff (i := .aload_n 0) (len := 1) (ax := []) (by decide +kernel))).trans (q_ldA_eq (K := fun st => mr140 S P 1 L st sh M c s))
theorem e140_1 : mr140 S P 1 L st sh M c s = (q_isA (q_gv L 0) ∧ mr140 S P 2 L (q_gv L 0 :: st) sh M c s) := (propext (mv_R_iff (i := .aload_n 0) (len := 1) (ax := []) (by decide +kernel))).trans (q_ldA_eq (K := fun st => mr140 S P 2 L st sh M c s))
theorem e140_2 {a : Nat} : mr140 S P 2 L (.ref a :: st) sh M c s = (mv_kgf sh M a 6 3 (mr140 S P) 5 L st c s) := propext (mv_R_iff (i := .getfield 79) (len := 3) (ax := [150, 0, 6, 3]) (by decide +kernel))
theorem e140_5 : mr140 S P 5 L st sh M c s = (mr140 S P 6 L (.int (nI 1) :: st) sh M c s) := propext (mv_R_iff (i := .iconst 1) (len := 1) (ax := []) (by decide +kernel))
theorem e140_6 {y : Int32} {x : Int32} : mr140 S P 6 L (.int y :: .int x :: st) sh M c s = (mr140 S P 7 L (.int (x + y) :: st) sh M c s) := propext (mv_R_iff (i := .iadd) (len := 1) (ax := []) (by decide +kernel))
theorem e140_7 {v2 : Value} {v1 : Value} : mr140 S P 7 L (v2 :: v1 :: st) sh M c s = (mv_ss st ≤ 8 ∧ c + 1 ≤ 1 ∧ s + 96 ≤ 96 ∧ mv_isO sh (some v1) 6 ∧ mv_kal S 12 [v1, v2] sh M (mr140 S P) 10 L st (c + 1) (s + 96)) := (propext (mv_R_iff (i := .invokevirtual 100) (len := 3) (ax := [0, 12, 2, 6, 1, 96, 0, 279, 281, 1404, 105, 282]) (by decide +kernel))).trans (q_call0)
theorem e140_10 : mr140 S P 10 L st sh M c s = (q_isA (q_gv L 0) ∧ mr140 S P 11 L (q_gv L 0 :: st) sh M c s) := (propext (mv_R_iff (i := .aload_n 0) (len := 1) (ax := []) (by decide +kernel))).trans (q_ldA_eq (K := fun st => mr140 S P 11 L st sh M c s))
theorem e140_11 {v1 : Value} : mr140 S P 11 L (v1 :: st) sh M c s = (mv_ss st ≤ 8 ∧ c ≤ 1 ∧ s ≤ 96 ∧ mv_isO sh (some v1) 6 ∧ mv_kal S 47 [v1] sh M (mr140 S P) 14 L st c s) := (propext (mv_R_iff (i := .invokevirtual 83) (len := 3) (ax := [0, 47, 1, 6, 0, 0, 0, 314, 315, 317, 105, 318]) (by decide +kernel))).trans (q_call0)
theorem e140_14 {x : Int32} : mr140 S P 14 L (.int x :: st) sh M c s = (if x = nI 0 then mr140 S P 45 L st sh M c s else mr140 S P 17 L st sh M c s) := (propext (mv_R_iff (i := .ifCond .eq 31) (len := 3) (ax := [45]) (by decide +kernel))).trans (q_br)
theorem e140_17 : mr140 S P 17 L st sh M c s = (q_isI (q_gv L 1) ∧ mr140 S P 18 L (q_gv L 1 :: st) sh M c s) := (propext (mv_R_iff (i := .iload_n 1) (len := 1) (ax := []) (by decide +kernel))).trans (q_ldI_eq (K := fun st => mr140 S P 18 L st sh M c s))
theorem e140_18 {v1 : Value} : mr140 S P 18 L (v1 :: st) sh M c s = (mv_ss st ≤ 8 ∧ c ≤ 1 ∧ s ≤ 96 ∧ True ∧ mv_kal S 139 [v1] sh M (mr140 S P) 21 L st c s) := (propext (mv_R_iff (i := .invokestatic 191) (len := 3) (ax := [3, 139, 1, 0, 0, 0, 0, 575, 576, 118, 577]) (by decide +kernel))).trans (q_call3)
theorem e140_21 {x : Int32} : mr140 S P 21 L (.int x :: st) sh M c s = (if x = nI 0 then mr140 S P 45 L st sh M c s else mr140 S P 24 L st sh M c s) := (propext (mv_R_iff (i := .ifCond .eq 24) (len := 3) (ax := [45]) (by decide +kernel))).trans (q_br)
theorem e140_24 : mr140 S P 24 L st sh M c s = (q_isA (q_gv L 0) ∧ mr140 S P 25 L (q_gv L 0 :: st) sh M c s) := (propext (mv_R_iff (i := .aload_n 0) (len := 1) (ax := []) (by decide +kernel))).trans (q_ldA_eq (K := fun st => mr140 S P 25 L st sh M c s))
theorem e140_25 {a : Nat} : mr140 S P 25 L (.ref a :: st) sh M c s = (mv_kgf sh M a 6 0 (mr140 S P) 28 L st c s) := propext (mv_R_iff (i := .getfield 15) (len := 3) (ax := [147, 0, 6, 0]) (by decide +kernel))
theorem e140_28 : mr140 S P 28 L st sh M c s = (q_isA (q_gv L 0) ∧ mr140 S P 29 L (q_gv L 0 :: st) sh M c s) := (propext (mv_R_iff (i := .aload_n 0) (len := 1) (ax := []) (by decide +kernel))).trans (q_ldA_eq (K := fun st => mr140 S P 29 L st sh M c s))
theorem e140_29 {x : Int32} : mr140 S P 29 L (.int x :: st) sh M c s = (mr140 S P 30 L (.int x :: .int x :: st) sh M c s) := propext (mv_R_iff (i := .dup) (len := 1) (ax := []) (by decide +kernel))
theorem e140_29r {x : Nat} : mr140 S P 29 L (.ref x :: st) sh M c s = (mr140 S P 30 L (.ref x :: .ref x :: st) sh M c s) := propext (mv_R_iff (i := .dup) (len := 1) (ax := []) (by decide +kernel))
theorem e140_30 {a : Nat} : mr140 S P 30 L (.ref a :: st) sh M c s = (mv_kgf sh M a 6 3 (mr140 S P) 33 L st c s) := propext (mv_R_iff (i := .getfield 79) (len := 3) (ax := [150, 0, 6, 3]) (by decide +kernel))
theorem e140_33 {x : Int32} {y : Int32} : mr140 S P 33 L (.int x :: .int y :: st) sh M c s = (mr140 S P 34 L (.int x :: .int y :: .int x :: st) sh M c s) := propext (mv_R_iff (i := .dup_x1) (len := 1) (ax := []) (by decide +kernel))
theorem e140_33q {x : Int32} {y : Nat} : mr140 S P 33 L (.int x :: .ref y :: st) sh M c s = (mr140 S P 34 L (.int x :: .ref y :: .int x :: st) sh M c s) := propext (mv_R_iff (i := .dup_x1) (len := 1) (ax := []) (by decide +kernel))
theorem e140_33r {x : Nat} {y : Int32} : mr140 S P 33 L (.ref x :: .int y :: st) sh M c s = (mr140 S P 34 L (.ref x :: .int y :: .ref x :: st) sh M c s) := propext (mv_R_iff (i := .dup_x1) (len := 1) (ax := []) (by decide +kernel))
theorem e140_33rq {x : Nat} {y : Nat} : mr140 S P 33 L (.ref x :: .ref y :: st) sh M c s = (mr140 S P 34 L (.ref x :: .ref y :: .ref x :: st) sh M c s) := propext (mv_R_iff (i := .dup_x1) (len := 1) (ax := []) (by decide +kernel))
theorem e140_34 : mr140 S P 34 L st sh M c s = (mr140 S P 35 L (.int (nI 1) :: st) sh M c s) := propext (mv_R_iff (i := .iconst 1) (len := 1) (ax := []) (by decide +kernel))
theorem e140_35 {y : Int32} {x : Int32} : mr140 S P 35 L (.int y :: .int x :: st) sh M c s = (mr140 S P 36 L (.int (x + y) :: st) sh M c s) := propext (mv_R_iff (i := .iadd) (len := 1) (ax := []) (by decide +kernel))
theorem e140_36 {x : Int32} {a : Nat} : mr140 S P 36 L (.int x :: .ref a :: st) sh M c s = (True ∧ mv_kpf sh M a 6 3 x (mr140 S P) 39 L st c s) := propext (mv_R_iff (i := .putfield 79) (len := 3) (ax := [150, 0, 6, 3, 0]) (by decide +kernel))
theorem e140_39 : mr140 S P 39 L st sh M c s = (q_isI (q_gv L 1) ∧ mr140 S P 40 L (q_gv L 1 :: st) sh M c s) := (propext (mv_R_iff (i := .iload_n 1) (len := 1) (ax := []) (by decide +kernel))).trans (q_ldI_eq (K := fun st => mr140 S P 40 L st sh M c s))
theorem e140_40 {x : Int32} : mr140 S P 40 L (.int x :: st) sh M c s = (mr140 S P 41 L (.int x.toInt8.toInt32 :: st) sh M c s) := propext (mv_R_iff (i := .i2b) (len := 1) (ax := []) (by decide +kernel))
theorem e140_41 {x : Int32} {i : Int32} {a : Nat} : mr140 S P 41 L (.int x :: .int i :: .ref a :: st) sh M c s = (mv_kbs sh M a i x (mr140 S P) 42 L st c s) := propext (mv_R_iff (i := .bastore) (len := 1) (ax := []) (by decide +kernel))
theorem e140_42 : mr140 S P 42 L st sh M c s = (mr140 S P 75 L st sh M c s) := propext (mv_R_iff (i := .goto 33) (len := 3) (ax := [75]) (by decide +kernel))
theorem e140_45 : mr140 S P 45 L st sh M c s = (q_isA (q_gv L 0) ∧ mr140 S P 46 L (q_gv L 0 :: st) sh M c s) := (propext (mv_R_iff (i := .aload_n 0) (len := 1) (ax := []) (by decide +kernel))).trans (q_ldA_eq (K := fun st => mr140 S P 46 L st sh M c s))
theorem e140_46 {v1 : Value} : mr140 S P 46 L (v1 :: st) sh M c s = (mv_ss st ≤ 8 ∧ c ≤ 1 ∧ s ≤ 96 ∧ mv_isO sh (some v1) 6 ∧ mv_kal S 47 [v1] sh M (mr140 S P) 49 L st c s) := (propext (mv_R_iff (i := .invokevirtual 83) (len := 3) (ax := [0, 47, 1, 6, 0, 0, 0, 314, 315, 317, 105, 318]) (by decide +kernel))).trans (q_call0)
theorem e140_49 {x : Int32} : mr140 S P 49 L (.int x :: st) sh M c s = (if x = nI 0 then mr140 S P 56 L st sh M c s else mr140 S P 52 L st sh M c s) := (propext (mv_R_iff (i := .ifCond .eq 7) (len := 3) (ax := [56]) (by decide +kernel))).trans (q_br)
theorem e140_52 : mr140 S P 52 L st sh M c s = (q_isA (q_gv L 0) ∧ mr140 S P 53 L (q_gv L 0 :: st) sh M c s) := (propext (mv_R_iff (i := .aload_n 0) (len := 1) (ax := []) (by decide +kernel))).trans (q_ldA_eq (K := fun st => mr140 S P 53 L st sh M c s))
theorem e140_56 : mr140 S P 56 L st sh M c s = (q_isA (q_gv L 0) ∧ mr140 S P 57 L (q_gv L 0 :: st) sh M c s) := (propext (mv_R_iff (i := .aload_n 0) (len := 1) (ax := []) (by decide +kernel))).trans (q_ldA_eq (K := fun st => mr140 S P 57 L st sh M c s))
theorem e140_57 {a : Nat} : mr140 S P 57 L (.ref a :: st) sh M c s = (mv_kgf sh M a 6 0 (mr140 S P) 60 L st c s) := propext (mv_R_iff (i := .getfield 15) (len := 3) (ax := [147, 0, 6, 0]) (by decide +kernel))
theorem e140_60 : mr140 S P 60 L st sh M c s = (q_isA (q_gv L 0) ∧ mr140 S P 61 L (q_gv L 0 :: st) sh M c s) := (propext (mv_R_iff (i := .aload_n 0) (len := 1) (ax := []) (by decide +kernel))).trans (q_ldA_eq (K := fun st => mr140 S P 61 L st sh M c s))
theorem e140_61 {x : Int32} : mr140 S P 61 L (.int x :: st) sh M c s = (mr140 S P 62 L (.int x :: .int x :: st) sh M c s) := propext (mv_R_iff (i := .dup) (len := 1) (ax := []) (by decide +kernel))
theorem e140_61r {x : Nat} : mr140 S P 61 L (.ref x :: st) sh M c s = (mr140 S P 62 L (.ref x :: .ref x :: st) sh M c s) := propext (mv_R_iff (i := .dup) (len := 1) (ax := []) (by decide +kernel))
theorem e140_62 {a : Nat} : mr140 S P 62 L (.ref a :: st) sh M c s = (mv_kgf sh M a 6 3 (mr140 S P) 65 L st c s) := propext (mv_R_iff (i := .getfield 79) (len := 3) (ax := [150, 0, 6, 3]) (by decide +kernel))
theorem e140_65 {x : Int32} {y : Int32} : mr140 S P 65 L (.int x :: .int y :: st) sh M c s = (mr140 S P 66 L (.int x :: .int y :: .int x :: st) sh M c s) := propext (mv_R_iff (i := .dup_x1) (len := 1) (ax := []) (by decide +kernel))
theorem e140_65q {x : Int32} {y : Nat} : mr140 S P 65 L (.int x :: .ref y :: st) sh M c s = (mr140 S P 66 L (.int x :: .ref y :: .int x :: st) sh M c s) := propext (mv_R_iff (i := .dup_x1) (len := 1) (ax := []) (by decide +kernel))
theorem e140_65r {x : Nat} {y : Int32} : mr140 S P 65 L (.ref x :: .int y :: st) sh M c s = (mr140 S P 66 L (.ref x :: .int y :: .ref x :: st) sh M c s) := propext (mv_R_iff (i := .dup_x1) (len := 1) (ax := []) (by decide +kernel))
theorem e140_65rq {x : Nat} {y : Nat} : mr140 S P 65 L (.ref x :: .ref y :: st) sh M c s = (mr140 S P 66 L (.ref x :: .ref y :: .ref x :: st) sh M c s) := propext (mv_R_iff (i := .dup_x1) (len := 1) (ax := []) (by decide +kernel))
theorem e140_66 : mr140 S P 66 L st sh M c s = (mr140 S P 67 L (.int (nI 1) :: st) sh M c s) := propext (mv_R_iff (i := .iconst 1) (len := 1) (ax := []) (by decide +kernel))
theorem e140_67 {y : Int32} {x : Int32} : mr140 S P 67 L (.int y :: .int x :: st) sh M c s = (mr140 S P 68 L (.int (x + y) :: st) sh M c s) := propext (mv_R_iff (i := .iadd) (len := 1) (ax := []) (by decide +kernel))
theorem e140_68 {x : Int32} {a : Nat} : mr140 S P 68 L (.int x :: .ref a :: st) sh M c s = (True ∧ mv_kpf sh M a 6 3 x (mr140 S P) 71 L st c s) := propext (mv_R_iff (i := .putfield 79) (len := 3) (ax := [150, 0, 6, 3, 0]) (by decide +kernel))
theorem e140_71 : mr140 S P 71 L st sh M c s = (q_isI (q_gv L 1) ∧ mr140 S P 72 L (q_gv L 1 :: st) sh M c s) := (propext (mv_R_iff (i := .iload_n 1) (len := 1) (ax := []) (by decide +kernel))).trans (q_ldI_eq (K := fun st => mr140 S P 72 L st sh M c s))
theorem e140_75 : mr140 S P 75 L st sh M c s = (q_isA (q_gv L 0) ∧ mr140 S P 76 L (q_gv L 0 :: st) sh M c s) := (propext (mv_R_iff (i := .aload_n 0) (len := 1) (ax := []) (by decide +kernel))).trans (q_ldA_eq (K := fun st => mr140 S P 76 L st sh M c s))
theorem e140_76 {x : Nat} : mr140 S P 76 L [.ref x] sh M c s = (P (some (.ref x)) sh M) := propext (mv_R_iff (i := .areturn) (len := 1) (ax := []) (by decide +kernel))
-- 141: StringBuilder.append(C)Ljava/lang/StringBuilder;
def mk141 : mv_Cd := [
  (0, .aload_n 0, 1, []),
  (1, .iload_n 1, 1, []),
  (2, .invokespecial 50, 3, [2, 140, 2, 6, 1, 96, 0, 572, 1401, 159, 573, 105, 574]),
  (5, .pop, 1, []),
  (6, .aload_n 0, 1, []),
  (7, .areturn, 1, [])]
def mr141 (S : Nat → mv_Sp) (P : mv_Post) : mv_Kt := mv_R mv_DF mk141 S (1, 96) P
theorem e141_0 : mr141 S P 0 L st sh M c s = (q_isA (q_gv L 0) ∧ mr141 S P 1 L (q_gv L 0 :: st) sh M c s) := (propext (mv_R_iff (i := .aload_n 0) (len := 1) (ax := []) (by decide +kernel))).trans (q_ldA_eq (K := fun st => mr141 S P 1 L st sh M c s))
theorem e141_1 : mr141 S P 1 L st sh M c s = (q_isI (q_gv L 1) ∧ mr141 S P 2 L (q_gv L 1 :: st) sh M c s) := (propext (mv_R_iff (i := .iload_n 1) (len := 1) (ax := []) (by decide +kernel))).trans (q_ldI_eq (K := fun st => mr141 S P 2 L st sh M c s))
theorem e141_2 {v2 : Value} {v1 : Value} : mr141 S P 2 L (v2 :: v1 :: st) sh M c s = (mv_ss st ≤ 8 ∧ c + 1 ≤ 1 ∧ s + 96 ≤ 96 ∧ mv_isO sh (some v1) 6 ∧ mv_kal S 140 [v1, v2] sh M (mr141 S P) 5 L st (c + 1) (s + 96)) := (propext (mv_R_iff (i := .invokespecial 50) (len := 3) (ax := [2, 140, 2, 6, 1, 96, 0, 572, 1401, 159, 573, 105, 574]) (by decide +kernel))).trans (q_call2)
theorem e141_5 {x : Int32} : mr141 S P 5 L (.int x :: st) sh M c s = (mr141 S P 6 L st sh M c s) := propext (mv_R_iff (i := .pop) (len := 1) (ax := []) (by decide +kernel))
theorem e141_5r {x : Nat} : mr141 S P 5 L (.ref x :: st) sh M c s = (mr141 S P 6 L st sh M c s) := propext (mv_R_iff (i := .pop) (len := 1) (ax := []) (by decide +kernel))
theorem e141_6 : mr141 S P 6 L st sh M c s = (q_isA (q_gv L 0) ∧ mr141 S P 7 L (q_gv L 0 :: st) sh M c s) := (propext (mv_R_iff (i := .aload_n 0) (len := 1) (ax := []) (by decide +kernel))).trans (q_ldA_eq (K := fun st => mr141 S P 7 L st sh M c s))
theorem e141_7 {x : Nat} : mr141 S P 7 L [.ref x] sh M c s = (P (some (.ref x)) sh M) := propext (mv_R_iff (i := .areturn) (len := 1) (ax := []) (by decide +kernel))
end CD
