/-! code lists and step rows, written by program -/
section CD
variable {S : Nat → mv_Sp} {P : mv_Post} {L : mv_Loc} {st : List Value} {sh : mv_Shp} {M : mv_Mem} {c s : Nat}
-- 9: ArraysSupport.newLength(III)I (not here: [23])
def mk9 : mv_Cd := [
  (0, .iload_n 0, 1, []),
  (1, .iload_n 1, 1, []),
  (2, .iload_n 2, 1, []),
  (3, .invokestatic 194, 3, [3, 8, 2, 0, 0, 0, 0, 290, 291, 114, 292]),
  (6, .iadd, 1, []),
  (7, .istore_n 3, 1, []),
  (8, .iconst 0, 1, []),
  (9, .iload_n 3, 1, []),
  (10, .if_icmp .ge 11, 3, [21]),
  (13, .iload_n 3, 1, []),
  (14, .ldc 200, 2, [293, 2147483639, 0]),
  (16, .if_icmp .gt 5, 3, [21]),
  (19, .iload_n 3, 1, []),
  (20, .ireturn, 1, [0]),
  (21, .iload_n 0, 1, []),
  (22, .iload_n 1, 1, [])]
def mr9 (S : Nat → mv_Sp) (P : mv_Post) : mv_Kt := mv_R mv_DF mk9 S (0, 0) P
theorem e9_0 : mr9 S P 0 L st sh M c s = (q_isI (q_gv L 0) ∧ mr9 S P 1 L (q_gv L 0 :: st) sh M c s) := (propext (mv_R_iff (i := .iload_n 0) (len := 1) (ax := []) (by decide +kernel))).trans (q_ldI_eq (K := fun st => mr9 S P 1 L st sh M c s))
theorem e9_1 : mr9 S P 1 L st sh M c s = (q_isI (q_gv L 1) ∧ mr9 S P 2 L (q_gv L 1 :: st) sh M c s) := (propext (mv_R_iff (i := .iload_n 1) (len := 1) (ax := []) (by decide +kernel))).trans (q_ldI_eq (K := fun st => mr9 S P 2 L st sh M c s))
theorem e9_2 : mr9 S P 2 L st sh M c s = (q_isI (q_gv L 2) ∧ mr9 S P 3 L (q_gv L 2 :: st) sh M c s) := (propext (mv_R_iff (i := .iload_n 2) (len := 1) (ax := []) (by decide +kernel))).trans (q_ldI_eq (K := fun st => mr9 S P 3 L st sh M c s))
theorem e9_3 {v2 : Value} {v1 : Value} : mr9 S P 3 L (v2 :: v1 :: st) sh M c s = (mv_ss st ≤ 8 ∧ c ≤ 0 ∧ s ≤ 0 ∧ True ∧ mv_kal S 8 [v1, v2] sh M (mr9 S P) 6 L st c s) := (propext (mv_R_iff (i := .invokestatic 194) (len := 3) (ax := [3, 8, 2, 0, 0, 0, 0, 290, 291, 114, 292]) (by decide +kernel))).trans (q_call3)
theorem e9_6 {y : Int32} {x : Int32} : mr9 S P 6 L (.int y :: .int x :: st) sh M c s = (mr9 S P 7 L (.int (x + y) :: st) sh M c s) := propext (mv_R_iff (i := .iadd) (len := 1) (ax := []) (by decide +kernel))
theorem e9_7 {x : Int32} : mr9 S P 7 L (.int x :: st) sh M c s = (q_hs L 3 ∧ mr9 S P 8 (L.set 3 (some (.int x))) st sh M c s) := (propext (mv_R_iff (i := .istore_n 3) (len := 1) (ax := []) (by decide +kernel))).trans (q_st_eq (K := fun L => mr9 S P 8 L st sh M c s))
theorem e9_8 : mr9 S P 8 L st sh M c s = (mr9 S P 9 L (.int (nI 0) :: st) sh M c s) := propext (mv_R_iff (i := .iconst 0) (len := 1) (ax := []) (by decide +kernel))
theorem e9_9 : mr9 S P 9 L st sh M c s = (q_isI (q_gv L 3) ∧ mr9 S P 10 L (q_gv L 3 :: st) sh M c s) := (propext (mv_R_iff (i := .iload_n 3) (len := 1) (ax := []) (by decide +kernel))).trans (q_ldI_eq (K := fun st => mr9 S P 10 L st sh M c s))
theorem e9_10 {y : Int32} {x : Int32} : mr9 S P 10 L (.int y :: .int x :: st) sh M c s = (if y ≤ x then mr9 S P 21 L st sh M c s else mr9 S P 13 L st sh M c s) := (propext (mv_R_iff (i := .if_icmp .ge 11) (len := 3) (ax := [21]) (by decide +kernel))).trans (q_br)
theorem e9_13 : mr9 S P 13 L st sh M c s = (q_isI (q_gv L 3) ∧ mr9 S P 14 L (q_gv L 3 :: st) sh M c s) := (propext (mv_R_iff (i := .iload_n 3) (len := 1) (ax := []) (by decide +kernel))).trans (q_ldI_eq (K := fun st => mr9 S P 14 L st sh M c s))
theorem e9_14 : mr9 S P 14 L st sh M c s = (mr9 S P 16 L (.int (nI 2147483639) :: st) sh M c s) := propext (mv_R_iff (i := .ldc 200) (len := 2) (ax := [293, 2147483639, 0]) (by decide +kernel))
theorem e9_16 {y : Int32} {x : Int32} : mr9 S P 16 L (.int y :: .int x :: st) sh M c s = (if y < x then mr9 S P 21 L st sh M c s else mr9 S P 19 L st sh M c s) := (propext (mv_R_iff (i := .if_icmp .gt 5) (len := 3) (ax := [21]) (by decide +kernel))).trans (q_br)
theorem e9_19 : mr9 S P 19 L st sh M c s = (q_isI (q_gv L 3) ∧ mr9 S P 20 L (q_gv L 3 :: st) sh M c s) := (propext (mv_R_iff (i := .iload_n 3) (len := 1) (ax := []) (by decide +kernel))).trans (q_ldI_eq (K := fun st => mr9 S P 20 L st sh M c s))
theorem e9_20 {x : Int32} : mr9 S P 20 L [.int x] sh M c s = (mv_nr 0 x ∧ P (some (.int x)) sh M) := propext (mv_R_iff (i := .ireturn) (len := 1) (ax := [0]) (by decide +kernel))
theorem e9_21 : mr9 S P 21 L st sh M c s = (q_isI (q_gv L 0) ∧ mr9 S P 22 L (q_gv L 0 :: st) sh M c s) := (propext (mv_R_iff (i := .iload_n 0) (len := 1) (ax := []) (by decide +kernel))).trans (q_ldI_eq (K := fun st => mr9 S P 22 L st sh M c s))
theorem e9_22 : mr9 S P 22 L st sh M c s = (q_isI (q_gv L 1) ∧ mr9 S P 23 L (q_gv L 1 :: st) sh M c s) := (propext (mv_R_iff (i := .iload_n 1) (len := 1) (ax := []) (by decide +kernel))).trans (q_ldI_eq (K := fun st => mr9 S P 23 L st sh M c s))
-- 10: AbstractStringBuilder.newCapacity(I)I (not here: [41, 45, 47, 50])
def mk10 : mv_Cd := [
  (0, .aload_n 0, 1, []),
  (1, .getfield 15, 3, [147, 0, 6, 0]),
  (4, .arraylength, 1, []),
  (5, .istore_n 2, 1, []),
  (6, .iload_n 1, 1, []),
  (7, .aload_n 0, 1, []),
  (8, .getfield 22, 3, [148, 0, 6, 1]),
  (11, .ishl, 1, []),
  (12, .istore_n 3, 1, []),
  (13, .iload_n 3, 1, []),
  (14, .iload_n 2, 1, []),
  (15, .isub, 1, []),
  (16, .istore 4, 2, []),
  (18, .iload_n 2, 1, []),
  (19, .iload 4, 2, []),
  (21, .iload_n 2, 1, []),
  (22, .iconst 2, 1, []),
  (23, .aload_n 0, 1, []),
  (24, .getfield 22, 3, [148, 0, 6, 1]),
  (27, .ishl, 1, []),
  (28, .iadd, 1, []),
  (29, .invokestatic 114, 3, [3, 9, 3, 0, 0, 0, 0, 287, 288, 113, 289]),
  (32, .istore 5, 2, []),
  (34, .iload 5, 2, []),
  (36, .ldc 39, 2, [297, 2147483647, 0]),
  (38, .if_icmp .ne 13, 3, [51]),
  (51, .iload 5, 2, []),
  (53, .aload_n 0, 1, []),
  (54, .getfield 22, 3, [148, 0, 6, 1]),
  (57, .ishr, 1, []),
  (58, .ireturn, 1, [0])]
def mr10 (S : Nat → mv_Sp) (P : mv_Post) : mv_Kt := mv_R mv_DF mk10 S (0, 0) P
theorem e10_0 : mr10 S P 0 L st sh M c s = (q_isA (q_gv L 0) ∧ mr10 S P 1 L (q_gv L 0 :: st) sh M c s) := (propext (mv_R_iff (i := .aload_n 0) (len := 1) (ax := []) (by decide +kernel))).trans (q_ldA_eq (K := fun st => mr10 S P 1 L st sh M c s))
theorem e10_1 {a : Nat} : mr10 S P 1 L (.ref a :: st) sh M c s = (mv_kgf sh M a 6 0 (mr10 S P) 4 L st c s) := propext (mv_R_iff (i := .getfield 15) (len := 3) (ax := [147, 0, 6, 0]) (by decide +kernel))
theorem e10_4 {a : Nat} : mr10 S P 4 L (.ref a :: st) sh M c s = (mv_kln sh M a (mr10 S P) 5 L st c s) := propext (mv_R_iff (i := .arraylength) (len := 1) (ax := []) (by decide +kernel))
theorem e10_5 {x : Int32} : mr10 S P 5 L (.int x :: st) sh M c s = (q_hs L 2 ∧ mr10 S P 6 (L.set 2 (some (.int x))) st sh M c s) := (propext (mv_R_iff (i := .istore_n 2) (len := 1) (ax := []) (by decide +kernel))).trans (q_st_eq (K := fun L => mr10 S P 6 L st sh M c s))
theorem e10_6 : mr10 S P 6 L st sh M c s = (q_isI (q_gv L 1) ∧ mr10 S P 7 L (q_gv L 1 :: st) sh M c s) := (propext (mv_R_iff (i := .iload_n 1) (len := 1) (ax := []) (by decide +kernel))).trans (q_ldI_eq (K := fun st => mr10 S P 7 L st sh M c s))
theorem e10_7 : mr10 S P 7 L st sh M c s = (q_isA (q_gv L 0) ∧ mr10 S P 8 L (q_gv L 0 :: st) sh M c s) := (propext (mv_R_iff (i := .aload_n 0) (len := 1) (ax := []) (by decide +kernel))).trans (q_ldA_eq (K := fun st => mr10 S P 8 L st sh M c s))
theorem e10_8 {a : Nat} : mr10 S P 8 L (.ref a :: st) sh M c s = (mv_kgf sh M a 6 1 (mr10 S P) 11 L st c s) := propext (mv_R_iff (i := .getfield 22) (len := 3) (ax := [148, 0, 6, 1]) (by decide +kernel))
theorem e10_11 {y : Int32} {x : Int32} : mr10 S P 11 L (.int y :: .int x :: st) sh M c s = (mr10 S P 12 L (.int (x <<< (y &&& 31)) :: st) sh M c s) := propext (mv_R_iff (i := .ishl) (len := 1) (ax := []) (by decide +kernel))
theorem e10_12 {x : Int32} : mr10 S P 12 L (.int x :: st) sh M c s = (q_hs L 3 ∧ mr10 S P 13 (L.set 3 (some (.int x))) st sh M c s) := (propext (mv_R_iff (i := .istore_n 3) (len := 1) (ax := []) (by decide +kernel))).trans (q_st_eq (K := fun L => mr10 S P 13 L st sh M c s))
theorem e10_13 : mr10 S P 13 L st sh M c s = (q_isI (q_gv L 3) ∧ mr10 S P 14 L (q_gv L 3 :: st) sh M c s) := (propext (mv_R_iff (i := .iload_n 3) (len := 1) (ax := []) (by decide +kernel))).trans (q_ldI_eq (K := fun st => mr10 S P 14 L st sh M c s))
theorem e10_14 : mr10 S P 14 L st sh M c s = (q_isI (q_gv L 2) ∧ mr10 S P 15 L (q_gv L 2 :: st) sh M c s) := (propext (mv_R_iff (i := .iload_n 2) (len := 1) (ax := []) (by decide +kernel))).trans (q_ldI_eq (K := fun st => mr10 S P 15 L st sh M c s))
theorem e10_15 {y : Int32} {x : Int32} : mr10 S P 15 L (.int y :: .int x :: st) sh M c s = (mr10 S P 16 L (.int (x - y) :: st) sh M c s) := propext (mv_R_iff (i := .isub) (len := 1) (ax := []) (by decide +kernel))
theorem e10_16 {x : Int32} : mr10 S P 16 L (.int x :: st) sh M c s = (q_hs L 4 ∧ mr10 S P 18 (L.set 4 (some (.int x))) st sh M c s) := (propext (mv_R_iff (i := .istore 4) (len := 2) (ax := []) (by decide +kernel))).trans (q_st_eq (K := fun L => mr10 S P 18 L st sh M c s))
theorem e10_18 : mr10 S P 18 L st sh M c s = (q_isI (q_gv L 2) ∧ mr10 S P 19 L (q_gv L 2 :: st) sh M c s) := (propext (mv_R_iff (i := .iload_n 2) (len := 1) (ax := []) (by decide +kernel))).trans (q_ldI_eq (K := fun st => mr10 S P 19 L st sh M c s))
theorem e10_19 : mr10 S P 19 L st sh M c s = (q_isI (q_gv L 4) ∧ mr10 S P 21 L (q_gv L 4 :: st) sh M c s) := (propext (mv_R_iff (i := .iload 4) (len := 2) (ax := []) (by decide +kernel))).trans (q_ldI_eq (K := fun st => mr10 S P 21 L st sh M c s))
theorem e10_21 : mr10 S P 21 L st sh M c s = (q_isI (q_gv L 2) ∧ mr10 S P 22 L (q_gv L 2 :: st) sh M c s) := (propext (mv_R_iff (i := .iload_n 2) (len := 1) (ax := []) (by decide +kernel))).trans (q_ldI_eq (K := fun st => mr10 S P 22 L st sh M c s))
theorem e10_22 : mr10 S P 22 L st sh M c s = (mr10 S P 23 L (.int (nI 2) :: st) sh M c s) := propext (mv_R_iff (i := .iconst 2) (len := 1) (ax := []) (by decide +kernel))
theorem e10_23 : mr10 S P 23 L st sh M c s = (q_isA (q_gv L 0) ∧ mr10 S P 24 L (q_gv L 0 :: st) sh M c s) := (propext (mv_R_iff (i := .aload_n 0) (len := 1) (ax := []) (by decide +kernel))).trans (q_ldA_eq (K := fun st => mr10 S P 24 L st sh M c s))
theorem e10_24 {a : Nat} : mr10 S P 24 L (.ref a :: st) sh M c s = (mv_kgf sh M a 6 1 (mr10 S P) 27 L st c s) := propext (mv_R_iff (i := .getfield 22) (len := 3) (ax := [148, 0, 6, 1]) (by decide +kernel))
theorem e10_27 {y : Int32} {x : Int32} : mr10 S P 27 L (.int y :: .int x :: st) sh M c s = (mr10 S P 28 L (.int (x <<< (y &&& 31)) :: st) sh M c s) := propext (mv_R_iff (i := .ishl) (len := 1) (ax := []) (by decide +kernel))
theorem e10_28 {y : Int32} {x : Int32} : mr10 S P 28 L (.int y :: .int x :: st) sh M c s = (mr10 S P 29 L (.int (x + y) :: st) sh M c s) := propext (mv_R_iff (i := .iadd) (len := 1) (ax := []) (by decide +kernel))
theorem e10_29 {v3 : Value} {v2 : Value} {v1 : Value} : mr10 S P 29 L (v3 :: v2 :: v1 :: st) sh M c s = (mv_ss st ≤ 8 ∧ c ≤ 0 ∧ s ≤ 0 ∧ True ∧ mv_kal S 9 [v1, v2, v3] sh M (mr10 S P) 32 L st c s) := (propext (mv_R_iff (i := .invokestatic 114) (len := 3) (ax := [3, 9, 3, 0, 0, 0, 0, 287, 288, 113, 289]) (by decide +kernel))).trans (q_call3)
theorem e10_32 {x : Int32} : mr10 S P 32 L (.int x :: st) sh M c s = (q_hs L 5 ∧ mr10 S P 34 (L.set 5 (some (.int x))) st sh M c s) := (propext (mv_R_iff (i := .istore 5) (len := 2) (ax := []) (by decide +kernel))).trans (q_st_eq (K := fun L => mr10 S P 34 L st sh M c s))
theorem e10_34 : mr10 S P 34 L st sh M c s = (q_isI (q_gv L 5) ∧ mr10 S P 36 L (q_gv L 5 :: st) sh M c s) := (propext (mv_R_iff (i := .iload 5) (len := 2) (ax := []) (by decide +kernel))).trans (q_ldI_eq (K := fun st => mr10 S P 36 L st sh M c s))
theorem e10_36 : mr10 S P 36 L st sh M c s = (mr10 S P 38 L (.int (nI 2147483647) :: st) sh M c s) := propext (mv_R_iff (i := .ldc 39) (len := 2) (ax := [297, 2147483647, 0]) (by decide +kernel))
theorem e10_38 {y : Int32} {x : Int32} : mr10 S P 38 L (.int y :: .int x :: st) sh M c s = (if x = y then mr10 S P 41 L st sh M c s else mr10 S P 51 L st sh M c s) := (propext (mv_R_iff (i := .if_icmp .ne 13) (len := 3) (ax := [51]) (by decide +kernel))).trans (q_br')
theorem e10_51 : mr10 S P 51 L st sh M c s = (q_isI (q_gv L 5) ∧ mr10 S P 53 L (q_gv L 5 :: st) sh M c s) := (propext (mv_R_iff (i := .iload 5) (len := 2) (ax := []) (by decide +kernel))).trans (q_ldI_eq (K := fun st => mr10 S P 53 L st sh M c s))
theorem e10_53 : mr10 S P 53 L st sh M c s = (q_isA (q_gv L 0) ∧ mr10 S P 54 L (q_gv L 0 :: st) sh M c s) := (propext (mv_R_iff (i := .aload_n 0) (len := 1) (ax := []) (by decide +kernel))).trans (q_ldA_eq (K := fun st => mr10 S P 54 L st sh M c s))
theorem e10_54 {a : Nat} : mr10 S P 54 L (.ref a :: st) sh M c s = (mv_kgf sh M a 6 1 (mr10 S P) 57 L st c s) := propext (mv_R_iff (i := .getfield 22) (len := 3) (ax := [148, 0, 6, 1]) (by decide +kernel))
theorem e10_57 {y : Int32} {x : Int32} : mr10 S P 57 L (.int y :: .int x :: st) sh M c s = (mr10 S P 58 L (.int (x >>> (y &&& 31)) :: st) sh M c s) := propext (mv_R_iff (i := .ishr) (len := 1) (ax := []) (by decide +kernel))
theorem e10_58 {x : Int32} : mr10 S P 58 L [.int x] sh M c s = (mv_nr 0 x ∧ P (some (.int x)) sh M) := propext (mv_R_iff (i := .ireturn) (len := 1) (ax := [0]) (by decide +kernel))
-- 11: Arrays.copyOf([BI)[B (not here: [7, 10])
def mk11 : mv_Cd := [
  (0, .iload_n 1, 1, []),
  (1, .aload_n 0, 1, []),
  (2, .arraylength, 1, []),
  (3, .if_icmp .ne 11, 3, [14]),
  (6, .aload_n 0, 1, []),
  (14, .iload_n 1, 1, []),
  (15, .newarray .byte, 2, [160, 1]),
  (17, .astore_n 2, 1, []),
  (18, .aload_n 0, 1, []),
  (19, .iconst 0, 1, []),
  (20, .aload_n 2, 1, []),
  (21, .iconst 0, 1, []),
  (22, .aload_n 0, 1, []),
  (23, .arraylength, 1, []),
  (24, .iload_n 1, 1, []),
  (25, .invokestatic 304, 3, [11, 308, 309, 114, 310]),
  (28, .invokestatic 150, 3, [10, 311, 313, 312, 116]),
  (31, .aload_n 2, 1, []),
  (32, .areturn, 1, [])]
def mr11 (S : Nat → mv_Sp) (P : mv_Post) : mv_Kt := mv_R mv_DF mk11 S (1, 96) P
theorem e11_0 : mr11 S P 0 L st sh M c s = (q_isI (q_gv L 1) ∧ mr11 S P 1 L (q_gv L 1 :: st) sh M c s) := (propext (mv_R_iff (i := .iload_n 1) (len := 1) (ax := []) (by decide +kernel))).trans (q_ldI_eq (K := fun st => mr11 S P 1 L st sh M c s))
theorem e11_1 : mr11 S P 1 L st sh M c s = (q_isA (q_gv L 0) ∧ mr11 S P 2 L (q_gv L 0 :: st) sh M c s) := (propext (mv_R_iff (i := .aload_n 0) (len := 1) (ax := []) (by decide +kernel))).trans (q_ldA_eq (K := fun st => mr11 S P 2 L st sh M c s))
theorem e11_2 {a : Nat} : mr11 S P 2 L (.ref a :: st) sh M c s = (mv_kln sh M a (mr11 S P) 3 L st c s) := propext (mv_R_iff (i := .arraylength) (len := 1) (ax := []) (by decide +kernel))
theorem e11_3 {y : Int32} {x : Int32} : mr11 S P 3 L (.int y :: .int x :: st) sh M c s = (if x = y then mr11 S P 6 L st sh M c s else mr11 S P 14 L st sh M c s) := (propext (mv_R_iff (i := .if_icmp .ne 11) (len := 3) (ax := [14]) (by decide +kernel))).trans (q_br')
theorem e11_6 : mr11 S P 6 L st sh M c s = (q_isA (q_gv L 0) ∧ mr11 S P 7 L (q_gv L 0 :: st) sh M c s) := (propext (mv_R_iff (i := .aload_n 0) (len := 1) (ax := []) (by decide +kernel))).trans (q_ldA_eq (K := fun st => mr11 S P 7 L st sh M c s))
theorem e11_14 : mr11 S P 14 L st sh M c s = (q_isI (q_gv L 1) ∧ mr11 S P 15 L (q_gv L 1 :: st) sh M c s) := (propext (mv_R_iff (i := .iload_n 1) (len := 1) (ax := []) (by decide +kernel))).trans (q_ldI_eq (K := fun st => mr11 S P 15 L st sh M c s))
theorem e11_15 {n : Int32} : mr11 S P 15 L (.int n :: st) sh M c s = ((sh.length < 900 ∧ ¬ n < 0 ∧ n.toNatClampNeg ≤ 10000 ∧ c + 1 ≤ 1 ∧ s + n.toNatClampNeg ≤ 96) ∧ mr11 S P 17 L (.ref sh.length :: st) (sh ++ [.inl (1, n.toNatClampNeg)]) (mv_wr M sh.length (fun _ => 0)) (c + 1) (s + n.toNatClampNeg)) := propext (mv_R_iff (i := .newarray .byte) (len := 2) (ax := [160, 1]) (by decide +kernel))
theorem e11_17 {x : Nat} : mr11 S P 17 L (.ref x :: st) sh M c s = (q_hs L 2 ∧ mr11 S P 18 (L.set 2 (some (.ref x))) st sh M c s) := (propext (mv_R_iff (i := .astore_n 2) (len := 1) (ax := []) (by decide +kernel))).trans (q_st_eq (K := fun L => mr11 S P 18 L st sh M c s))
theorem e11_18 : mr11 S P 18 L st sh M c s = (q_isA (q_gv L 0) ∧ mr11 S P 19 L (q_gv L 0 :: st) sh M c s) := (propext (mv_R_iff (i := .aload_n 0) (len := 1) (ax := []) (by decide +kernel))).trans (q_ldA_eq (K := fun st => mr11 S P 19 L st sh M c s))
theorem e11_19 : mr11 S P 19 L st sh M c s = (mr11 S P 20 L (.int (nI 0) :: st) sh M c s) := propext (mv_R_iff (i := .iconst 0) (len := 1) (ax := []) (by decide +kernel))
theorem e11_20 : mr11 S P 20 L st sh M c s = (q_isA (q_gv L 2) ∧ mr11 S P 21 L (q_gv L 2 :: st) sh M c s) := (propext (mv_R_iff (i := .aload_n 2) (len := 1) (ax := []) (by decide +kernel))).trans (q_ldA_eq (K := fun st => mr11 S P 21 L st sh M c s))
theorem e11_21 : mr11 S P 21 L st sh M c s = (mr11 S P 22 L (.int (nI 0) :: st) sh M c s) := propext (mv_R_iff (i := .iconst 0) (len := 1) (ax := []) (by decide +kernel))
theorem e11_22 : mr11 S P 22 L st sh M c s = (q_isA (q_gv L 0) ∧ mr11 S P 23 L (q_gv L 0 :: st) sh M c s) := (propext (mv_R_iff (i := .aload_n 0) (len := 1) (ax := []) (by decide +kernel))).trans (q_ldA_eq (K := fun st => mr11 S P 23 L st sh M c s))
theorem e11_23 {a : Nat} : mr11 S P 23 L (.ref a :: st) sh M c s = (mv_kln sh M a (mr11 S P) 24 L st c s) := propext (mv_R_iff (i := .arraylength) (len := 1) (ax := []) (by decide +kernel))
theorem e11_24 : mr11 S P 24 L st sh M c s = (q_isI (q_gv L 1) ∧ mr11 S P 25 L (q_gv L 1 :: st) sh M c s) := (propext (mv_R_iff (i := .iload_n 1) (len := 1) (ax := []) (by decide +kernel))).trans (q_ldI_eq (K := fun st => mr11 S P 25 L st sh M c s))
theorem e11_25 {y : Int32} {x : Int32} : mr11 S P 25 L (.int y :: .int x :: st) sh M c s = (mv_ss st + 1 + 1 ≤ 8 ∧ mr11 S P 28 L (.int (if y < x then y else x) :: st) sh M c s) := propext (mv_R_iff (i := .invokestatic 304) (len := 3) (ax := [11, 308, 309, 114, 310]) (by decide +kernel))
theorem e11_28 {n : Int32} {dp : Int32} {d : Nat} {sp : Int32} {a : Nat} : mr11 S P 28 L (.int n :: .int dp :: .ref d :: .int sp :: .ref a :: st) sh M c s = (mv_kcp sh M a sp d dp n (mr11 S P) 31 L st c s) := propext (mv_R_iff (i := .invokestatic 150) (len := 3) (ax := [10, 311, 313, 312, 116]) (by decide +kernel))
theorem e11_31 : mr11 S P 31 L st sh M c s = (q_isA (q_gv L 2) ∧ mr11 S P 32 L (q_gv L 2 :: st) sh M c s) := (propext (mv_R_iff (i := .aload_n 2) (len := 1) (ax := []) (by decide +kernel))).trans (q_ldA_eq (K := fun st => mr11 S P 32 L st sh M c s))
theorem e11_32 {x : Nat} : mr11 S P 32 L [.ref x] sh M c s = (P (some (.ref x)) sh M) := propext (mv_R_iff (i := .areturn) (len := 1) (ax := []) (by decide +kernel))
end CD
