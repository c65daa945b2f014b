/-! code lists and step rows, written by program -/
section CD
variable {S : Nat → mv_Sp} {P : mv_Post} {L : mv_Loc} {st : List Value} {sh : mv_Shp} {M : mv_Mem} {c s : Nat}
-- 143: TurnedTabletsModel.sign(I)Z
def mk143 : mv_Cd := [
  (0, .aload_n 0, 1, []),
  (1, .getfield 96, 3, [1042, 0, 5, 17]),
  (4, .aload_n 0, 1, []),
  (5, .getfield 80, 3, [1038, 0, 5, 13]),
  (8, .if_icmp .ge 20, 3, [28]),
  (11, .aload_n 0, 1, []),
  (12, .getfield 28, 3, [1037, 0, 5, 12]),
  (15, .aload_n 0, 1, []),
  (16, .getfield 96, 3, [1042, 0, 5, 17]),
  (19, .iaload, 1, []),
  (20, .iload_n 1, 1, []),
  (21, .if_icmp .ne 7, 3, [28]),
  (24, .iconst 1, 1, []),
  (25, .goto 4, 3, [29]),
  (28, .iconst 0, 1, []),
  (29, .istore_n 2, 1, []),
  (30, .aload_n 0, 1, []),
  (31, .dup, 1, []),
  (32, .getfield 96, 3, [1042, 0, 5, 17]),
  (35, .iload_n 2, 1, []),
  (36, .ifCond .eq 7, 3, [43]),
  (39, .iconst 1, 1, []),
  (40, .goto 4, 3, [44]),
  (43, .iconst 0, 1, []),
  (44, .iadd, 1, []),
  (45, .putfield 96, 3, [1042, 0, 5, 17, 0]),
  (48, .iload_n 2, 1, []),
  (49, .ireturn, 1, [1])]
def mr143 (S : Nat → mv_Sp) (P : mv_Post) : mv_Kt := mv_R mv_DF mk143 S (0, 0) P
theorem e143_0 : mr143 S P 0 L st sh M c s = (q_isA (q_gv L 0) ∧ mr143 S P 1 L (q_gv L 0 :: st) sh M c s) := (propext (mv_R_iff (i := .aload_n 0) (len := 1) (ax := []) (by decide +kernel))).trans (q_ldA_eq (K := fun st => mr143 S P 1 L st sh M c s))
theorem e143_1 {a : Nat} : mr143 S P 1 L (.ref a :: st) sh M c s = (mv_kgf sh M a 5 17 (mr143 S P) 4 L st c s) := propext (mv_R_iff (i := .getfield 96) (len := 3) (ax := [1042, 0, 5, 17]) (by decide +kernel))
theorem e143_4 : mr143 S P 4 L st sh M c s = (q_isA (q_gv L 0) ∧ mr143 S P 5 L (q_gv L 0 :: st) sh M c s) := (propext (mv_R_iff (i := .aload_n 0) (len := 1) (ax := []) (by decide +kernel))).trans (q_ldA_eq (K := fun st => mr143 S P 5 L st sh M c s))
theorem e143_5 {a : Nat} : mr143 S P 5 L (.ref a :: st) sh M c s = (mv_kgf sh M a 5 13 (mr143 S P) 8 L st c s) := propext (mv_R_iff (i := .getfield 80) (len := 3) (ax := [1038, 0, 5, 13]) (by decide +kernel))
theorem e143_8 {y : Int32} {x : Int32} : mr143 S P 8 L (.int y :: .int x :: st) sh M c s = (if y ≤ x then mr143 S P 28 L st sh M c s else mr143 S P 11 L st sh M c s) := (propext (mv_R_iff (i := .if_icmp .ge 20) (len := 3) (ax := [28]) (by decide +kernel))).trans (q_br)
theorem e143_11 : mr143 S P 11 L st sh M c s = (q_isA (q_gv L 0) ∧ mr143 S P 12 L (q_gv L 0 :: st) sh M c s) := (propext (mv_R_iff (i := .aload_n 0) (len := 1) (ax := []) (by decide +kernel))).trans (q_ldA_eq (K := fun st => mr143 S P 12 L st sh M c s))
theorem e143_12 {a : Nat} : mr143 S P 12 L (.ref a :: st) sh M c s = (mv_kgf sh M a 5 12 (mr143 S P) 15 L st c s) := propext (mv_R_iff (i := .getfield 28) (len := 3) (ax := [1037, 0, 5, 12]) (by decide +kernel))
theorem e143_15 : mr143 S P 15 L st sh M c s = (q_isA (q_gv L 0) ∧ mr143 S P 16 L (q_gv L 0 :: st) sh M c s) := (propext (mv_R_iff (i := .aload_n 0) (len := 1) (ax := []) (by decide +kernel))).trans (q_ldA_eq (K := fun st => mr143 S P 16 L st sh M c s))
theorem e143_16 {a : Nat} : mr143 S P 16 L (.ref a :: st) sh M c s = (mv_kgf sh M a 5 17 (mr143 S P) 19 L st c s) := propext (mv_R_iff (i := .getfield 96) (len := 3) (ax := [1042, 0, 5, 17]) (by decide +kernel))
theorem e143_19 {i : Int32} {a : Nat} : mr143 S P 19 L (.int i :: .ref a :: st) sh M c s = (mv_kld sh M a i (mr143 S P) 20 L st c s) := propext (mv_R_iff (i := .iaload) (len := 1) (ax := []) (by decide +kernel))
theorem e143_20 : mr143 S P 20 L st sh M c s = (q_isI (q_gv L 1) ∧ mr143 S P 21 L (q_gv L 1 :: st) sh M c s) := (propext (mv_R_iff (i := .iload_n 1) (len := 1) (ax := []) (by decide +kernel))).trans (q_ldI_eq (K := fun st => mr143 S P 21 L st sh M c s))
theorem e143_21 {y : Int32} {x : Int32} : mr143 S P 21 L (.int y :: .int x :: st) sh M c s = (if x = y then mr143 S P 24 L st sh M c s else mr143 S P 28 L st sh M c s) := (propext (mv_R_iff (i := .if_icmp .ne 7) (len := 3) (ax := [28]) (by decide +kernel))).trans (q_br')
theorem e143_24 : mr143 S P 24 L st sh M c s = (mr143 S P 25 L (.int (nI 1) :: st) sh M c s) := propext (mv_R_iff (i := .iconst 1) (len := 1) (ax := []) (by decide +kernel))
theorem e143_25 : mr143 S P 25 L st sh M c s = (mr143 S P 29 L st sh M c s) := propext (mv_R_iff (i := .goto 4) (len := 3) (ax := [29]) (by decide +kernel))
theorem e143_28 : mr143 S P 28 L st sh M c s = (mr143 S P 29 L (.int (nI 0) :: st) sh M c s) := propext (mv_R_iff (i := .iconst 0) (len := 1) (ax := []) (by decide +kernel))
theorem e143_29 {x : Int32} : mr143 S P 29 L (.int x :: st) sh M c s = (q_hs L 2 ∧ mr143 S P 30 (L.set 2 (some (.int x))) st sh M c s) := (propext (mv_R_iff (i := .istore_n 2) (len := 1) (ax := []) (by decide +kernel))).trans (q_st_eq (K := fun L => mr143 S P 30 L st sh M c s))
theorem e143_30 : mr143 S P 30 L st sh M c s = (q_isA (q_gv L 0) ∧ mr143 S P 31 L (q_gv L 0 :: st) sh M c s) := (propext (mv_R_iff (i := .aload_n 0) (len := 1) (ax := []) (by decide +kernel))).trans (q_ldA_eq (K := fun st => mr143 S P 31 L st sh M c s))
theorem e143_31 {x : Int32} : mr143 S P 31 L (.int x :: st) sh M c s = (mr143 S P 32 L (.int x :: .int x :: st) sh M c s) := propext (mv_R_iff (i := .dup) (len := 1) (ax := []) (by decide +kernel))
theorem e143_31r {x : Nat} : mr143 S P 31 L (.ref x :: st) sh M c s = (mr143 S P 32 L (.ref x :: .ref x :: st) sh M c s) := propext (mv_R_iff (i := .dup) (len := 1) (ax := []) (by decide +kernel))
theorem e143_32 {a : Nat} : mr143 S P 32 L (.ref a :: st) sh M c s = (mv_kgf sh M a 5 17 (mr143 S P) 35 L st c s) := propext (mv_R_iff (i := .getfield 96) (len := 3) (ax := [1042, 0, 5, 17]) (by decide +kernel))
theorem e143_35 : mr143 S P 35 L st sh M c s = (q_isI (q_gv L 2) ∧ mr143 S P 36 L (q_gv L 2 :: st) sh M c s) := (propext (mv_R_iff (i := .iload_n 2) (len := 1) (ax := []) (by decide +kernel))).trans (q_ldI_eq (K := fun st => mr143 S P 36 L st sh M c s))
theorem e143_36 {x : Int32} : mr143 S P 36 L (.int x :: st) sh M c s = (if x = nI 0 then mr143 S P 43 L st sh M c s else mr143 S P 39 L st sh M c s) := (propext (mv_R_iff (i := .ifCond .eq 7) (len := 3) (ax := [43]) (by decide +kernel))).trans (q_br)
theorem e143_39 : mr143 S P 39 L st sh M c s = (mr143 S P 40 L (.int (nI 1) :: st) sh M c s) := propext (mv_R_iff (i := .iconst 1) (len := 1) (ax := []) (by decide +kernel))
theorem e143_40 : mr143 S P 40 L st sh M c s = (mr143 S P 44 L st sh M c s) := propext (mv_R_iff (i := .goto 4) (len := 3) (ax := [44]) (by decide +kernel))
theorem e143_43 : mr143 S P 43 L st sh M c s = (mr143 S P 44 L (.int (nI 0) :: st) sh M c s) := propext (mv_R_iff (i := .iconst 0) (len := 1) (ax := []) (by decide +kernel))
theorem e143_44 {y : Int32} {x : Int32} : mr143 S P 44 L (.int y :: .int x :: st) sh M c s = (mr143 S P 45 L (.int (x + y) :: st) sh M c s) := propext (mv_R_iff (i := .iadd) (len := 1) (ax := []) (by decide +kernel))
theorem e143_45 {x : Int32} {a : Nat} : mr143 S P 45 L (.int x :: .ref a :: st) sh M c s = (True ∧ mv_kpf sh M a 5 17 x (mr143 S P) 48 L st c s) := propext (mv_R_iff (i := .putfield 96) (len := 3) (ax := [1042, 0, 5, 17, 0]) (by decide +kernel))
theorem e143_48 : mr143 S P 48 L st sh M c s = (q_isI (q_gv L 2) ∧ mr143 S P 49 L (q_gv L 2 :: st) sh M c s) := (propext (mv_R_iff (i := .iload_n 2) (len := 1) (ax := []) (by decide +kernel))).trans (q_ldI_eq (K := fun st => mr143 S P 49 L st sh M c s))
theorem e143_49 {x : Int32} : mr143 S P 49 L [.int x] sh M c s = (mv_nr 1 x ∧ P (some (.int x)) sh M) := propext (mv_R_iff (i := .ireturn) (len := 1) (ax := [1]) (by decide +kernel))
-- 144: TurnedTabletsModel.in(JJJ)Z
def mk144 : mv_Cd := [
  (0, .lload_n 0, 1, []),
  (1, .lload_n 2, 1, []),
  (2, .lcmp, 1, []),
  (3, .ifCond .lt 14, 3, [17]),
  (6, .lload_n 0, 1, []),
  (7, .lload 4, 2, []),
  (9, .lcmp, 1, []),
  (10, .ifCond .gt 7, 3, [17]),
  (13, .iconst 1, 1, []),
  (14, .goto 4, 3, [18]),
  (17, .iconst 0, 1, []),
  (18, .ireturn, 1, [1])]
def mr144 (S : Nat → mv_Sp) (P : mv_Post) : mv_Kt := mv_R mv_DF mk144 S (0, 0) P
theorem e144_0 : mr144 S P 0 L st sh M c s = (q_isL (q_gv L 0) ∧ mr144 S P 1 L (q_gv L 0 :: st) sh M c s) := (propext (mv_R_iff (i := .lload_n 0) (len := 1) (ax := []) (by decide +kernel))).trans (q_ldL_eq (K := fun st => mr144 S P 1 L st sh M c s))
theorem e144_1 : mr144 S P 1 L st sh M c s = (q_isL (q_gv L 2) ∧ mr144 S P 2 L (q_gv L 2 :: st) sh M c s) := (propext (mv_R_iff (i := .lload_n 2) (len := 1) (ax := []) (by decide +kernel))).trans (q_ldL_eq (K := fun st => mr144 S P 2 L st sh M c s))
theorem e144_2 {y : Int64} {x : Int64} : mr144 S P 2 L (.long y :: .long x :: st) sh M c s = (mr144 S P 3 L (.int (lg_cmp x y) :: st) sh M c s) := propext (mv_R_iff (i := .lcmp) (len := 1) (ax := []) (by decide +kernel))
theorem e144_3 {x : Int32} : mr144 S P 3 L (.int x :: st) sh M c s = (if x < nI 0 then mr144 S P 17 L st sh M c s else mr144 S P 6 L st sh M c s) := (propext (mv_R_iff (i := .ifCond .lt 14) (len := 3) (ax := [17]) (by decide +kernel))).trans (q_br)
theorem e144_6 : mr144 S P 6 L st sh M c s = (q_isL (q_gv L 0) ∧ mr144 S P 7 L (q_gv L 0 :: st) sh M c s) := (propext (mv_R_iff (i := .lload_n 0) (len := 1) (ax := []) (by decide +kernel))).trans (q_ldL_eq (K := fun st => mr144 S P 7 L st sh M c s))
theorem e144_7 : mr144 S P 7 L st sh M c s = (q_isL (q_gv L 4) ∧ mr144 S P 9 L (q_gv L 4 :: st) sh M c s) := (propext (mv_R_iff (i := .lload 4) (len := 2) (ax := []) (by decide +kernel))).trans (q_ldL_eq (K := fun st => mr144 S P 9 L st sh M c s))
theorem e144_9 {y : Int64} {x : Int64} : mr144 S P 9 L (.long y :: .long x :: st) sh M c s = (mr144 S P 10 L (.int (lg_cmp x y) :: st) sh M c s) := propext (mv_R_iff (i := .lcmp) (len := 1) (ax := []) (by decide +kernel))
theorem e144_10 {x : Int32} : mr144 S P 10 L (.int x :: st) sh M c s = (if nI 0 < x then mr144 S P 17 L st sh M c s else mr144 S P 13 L st sh M c s) := (propext (mv_R_iff (i := .ifCond .gt 7) (len := 3) (ax := [17]) (by decide +kernel))).trans (q_br)
theorem e144_13 : mr144 S P 13 L st sh M c s = (mr144 S P 14 L (.int (nI 1) :: st) sh M c s) := propext (mv_R_iff (i := .iconst 1) (len := 1) (ax := []) (by decide +kernel))
theorem e144_14 : mr144 S P 14 L st sh M c s = (mr144 S P 18 L st sh M c s) := propext (mv_R_iff (i := .goto 4) (len := 3) (ax := [18]) (by decide +kernel))
theorem e144_17 : mr144 S P 17 L st sh M c s = (mr144 S P 18 L (.int (nI 0) :: st) sh M c s) := propext (mv_R_iff (i := .iconst 0) (len := 1) (ax := []) (by decide +kernel))
theorem e144_18 {x : Int32} : mr144 S P 18 L [.int x] sh M c s = (mv_nr 1 x ∧ P (some (.int x)) sh M) := propext (mv_R_iff (i := .ireturn) (len := 1) (ax := [1]) (by decide +kernel))
-- 145: TurnedTabletsModel.isFigure()Z
def mk145 : mv_Cd := [
  (0, .aload_n 0, 1, []),
  (1, .getfield 96, 3, [1042, 0, 5, 17]),
  (4, .aload_n 0, 1, []),
  (5, .getfield 80, 3, [1038, 0, 5, 13]),
  (8, .if_icmp .ge 29, 3, [37]),
  (11, .aload_n 0, 1, []),
  (12, .getfield 28, 3, [1037, 0, 5, 12]),
  (15, .aload_n 0, 1, []),
  (16, .getfield 96, 3, [1042, 0, 5, 17]),
  (19, .iaload, 1, []),
  (20, .i2l, 1, []),
  (21, .ldc2_w 99, 3, [1005, 48]),
  (24, .ldc2_w 101, 3, [1006, 57]),
  (27, .invokestatic 92, 3, [3, 144, 3, 0, 0, 0, 0, 1007, 1008, 119, 1009]),
  (30, .ifCond .eq 7, 3, [37]),
  (33, .iconst 1, 1, []),
  (34, .goto 4, 3, [38]),
  (37, .iconst 0, 1, []),
  (38, .ireturn, 1, [1])]
def mr145 (S : Nat → mv_Sp) (P : mv_Post) : mv_Kt := mv_R mv_DF mk145 S (0, 0) P
theorem e145_0 : mr145 S P 0 L st sh M c s = (q_isA (q_gv L 0) ∧ mr145 S P 1 L (q_gv L 0 :: st) sh M c s) := (propext (mv_R_iff (i := .aload_n 0) (len := 1) (ax := []) (by decide +kernel))).trans (q_ldA_eq (K := fun st => mr145 S P 1 L st sh M c s))
theorem e145_1 {a : Nat} : mr145 S P 1 L (.ref a :: st) sh M c s = (mv_kgf sh M a 5 17 (mr145 S P) 4 L st c s) := propext (mv_R_iff (i := .getfield 96) (len := 3) (ax := [1042, 0, 5, 17]) (by decide +kernel))
theorem e145_4 : mr145 S P 4 L st sh M c s = (q_isA (q_gv L 0) ∧ mr145 S P 5 L (q_gv L 0 :: st) sh M c s) := (propext (mv_R_iff (i := .aload_n 0) (len := 1) (ax := []) (by decide +kernel))).trans (q_ldA_eq (K := fun st => mr145 S P 5 L st sh M c s))
theorem e145_5 {a : Nat} : mr145 S P 5 L (.ref a :: st) sh M c s = (mv_kgf sh M a 5 13 (mr145 S P) 8 L st c s) := propext (mv_R_iff (i := .getfield 80) (len := 3) (ax := [1038, 0, 5, 13]) (by decide +kernel))
theorem e145_8 {y : Int32} {x : Int32} : mr145 S P 8 L (.int y :: .int x :: st) sh M c s = (if y ≤ x then mr145 S P 37 L st sh M c s else mr145 S P 11 L st sh M c s) := (propext (mv_R_iff (i := .if_icmp .ge 29) (len := 3) (ax := [37]) (by decide +kernel))).trans (q_br)
theorem e145_11 : mr145 S P 11 L st sh M c s = (q_isA (q_gv L 0) ∧ mr145 S P 12 L (q_gv L 0 :: st) sh M c s) := (propext (mv_R_iff (i := .aload_n 0) (len := 1) (ax := []) (by decide +kernel))).trans (q_ldA_eq (K := fun st => mr145 S P 12 L st sh M c s))
theorem e145_12 {a : Nat} : mr145 S P 12 L (.ref a :: st) sh M c s = (mv_kgf sh M a 5 12 (mr145 S P) 15 L st c s) := propext (mv_R_iff (i := .getfield 28) (len := 3) (ax := [1037, 0, 5, 12]) (by decide +kernel))
theorem e145_15 : mr145 S P 15 L st sh M c s = (q_isA (q_gv L 0) ∧ mr145 S P 16 L (q_gv L 0 :: st) sh M c s) := (propext (mv_R_iff (i := .aload_n 0) (len := 1) (ax := []) (by decide +kernel))).trans (q_ldA_eq (K := fun st => mr145 S P 16 L st sh M c s))
theorem e145_16 {a : Nat} : mr145 S P 16 L (.ref a :: st) sh M c s = (mv_kgf sh M a 5 17 (mr145 S P) 19 L st c s) := propext (mv_R_iff (i := .getfield 96) (len := 3) (ax := [1042, 0, 5, 17]) (by decide +kernel))
theorem e145_19 {i : Int32} {a : Nat} : mr145 S P 19 L (.int i :: .ref a :: st) sh M c s = (mv_kld sh M a i (mr145 S P) 20 L st c s) := propext (mv_R_iff (i := .iaload) (len := 1) (ax := []) (by decide +kernel))
theorem e145_20 {x : Int32} : mr145 S P 20 L (.int x :: st) sh M c s = (mr145 S P 21 L (.long x.toInt64 :: st) sh M c s) := propext (mv_R_iff (i := .i2l) (len := 1) (ax := []) (by decide +kernel))
theorem e145_21 : mr145 S P 21 L st sh M c s = (mr145 S P 24 L (.long (lN 48) :: st) sh M c s) := propext (mv_R_iff (i := .ldc2_w 99) (len := 3) (ax := [1005, 48]) (by decide +kernel))
theorem e145_24 : mr145 S P 24 L st sh M c s = (mr145 S P 27 L (.long (lN 57) :: st) sh M c s) := propext (mv_R_iff (i := .ldc2_w 101) (len := 3) (ax := [1006, 57]) (by decide +kernel))
theorem e145_27 {v3 : Value} {v2 : Value} {v1 : Value} : mr145 S P 27 L (v3 :: v2 :: v1 :: st) sh M c s = (mv_ss st ≤ 8 ∧ c ≤ 0 ∧ s ≤ 0 ∧ True ∧ mv_kal S 144 [v1, v2, v3] sh M (mr145 S P) 30 L st c s) := (propext (mv_R_iff (i := .invokestatic 92) (len := 3) (ax := [3, 144, 3, 0, 0, 0, 0, 1007, 1008, 119, 1009]) (by decide +kernel))).trans (q_call3)
theorem e145_30 {x : Int32} : mr145 S P 30 L (.int x :: st) sh M c s = (if x = nI 0 then mr145 S P 37 L st sh M c s else mr145 S P 33 L st sh M c s) := (propext (mv_R_iff (i := .ifCond .eq 7) (len := 3) (ax := [37]) (by decide +kernel))).trans (q_br)
theorem e145_33 : mr145 S P 33 L st sh M c s = (mr145 S P 34 L (.int (nI 1) :: st) sh M c s) := propext (mv_R_iff (i := .iconst 1) (len := 1) (ax := []) (by decide +kernel))
theorem e145_34 : mr145 S P 34 L st sh M c s = (mr145 S P 38 L st sh M c s) := propext (mv_R_iff (i := .goto 4) (len := 3) (ax := [38]) (by decide +kernel))
theorem e145_37 : mr145 S P 37 L st sh M c s = (mr145 S P 38 L (.int (nI 0) :: st) sh M c s) := propext (mv_R_iff (i := .iconst 0) (len := 1) (ax := []) (by decide +kernel))
theorem e145_38 {x : Int32} : mr145 S P 38 L [.int x] sh M c s = (mv_nr 1 x ∧ P (some (.int x)) sh M) := propext (mv_R_iff (i := .ireturn) (len := 1) (ax := [1]) (by decide +kernel))
-- 146: TurnedTabletsModel.readsNumber(II)Z
def mk146 : mv_Cd := [
  (0, .aload_n 0, 1, []),
  (1, .getfield 96, 3, [1042, 0, 5, 17]),
  (4, .istore_n 3, 1, []),
  (5, .aload_n 0, 1, []),
  (6, .iconst 0, 1, []),
  (7, .putfield 103, 3, [1043, 0, 5, 18, 0]),
  (10, .aload_n 0, 1, []),
  (11, .getfield 96, 3, [1042, 0, 5, 17]),
  (14, .iload_n 3, 1, []),
  (15, .iconst 2, 1, []),
  (16, .iadd, 1, []),
  (17, .if_icmp .ge 47, 3, [64]),
  (20, .aload_n 0, 1, []),
  (21, .invokevirtual 106, 3, [0, 145, 1, 5, 0, 0, 0, 1001, 1003, 75, 119, 1004]),
  (24, .ifCond .eq 40, 3, [64]),
  (27, .aload_n 0, 1, []),
  (28, .bipush 10, 2, []),
  (30, .aload_n 0, 1, []),
  (31, .getfield 103, 3, [1043, 0, 5, 18]),
  (34, .imul, 1, []),
  (35, .aload_n 0, 1, []),
  (36, .getfield 28, 3, [1037, 0, 5, 12]),
  (39, .aload_n 0, 1, []),
  (40, .getfield 96, 3, [1042, 0, 5, 17]),
  (43, .iaload, 1, []),
  (44, .iadd, 1, []),
  (45, .bipush 48, 2, []),
  (47, .isub, 1, []),
  (48, .putfield 103, 3, [1043, 0, 5, 18, 0]),
  (51, .aload_n 0, 1, []),
  (52, .dup, 1, []),
  (53, .getfield 96, 3, [1042, 0, 5, 17]),
  (56, .iconst 1, 1, []),
  (57, .iadd, 1, []),
  (58, .putfield 96, 3, [1042, 0, 5, 17, 0]),
  (61, .goto (-51), 3, [10]),
  (64, .aload_n 0, 1, []),
  (65, .getfield 96, 3, [1042, 0, 5, 17]),
  (68, .iload_n 3, 1, []),
  (69, .if_icmp .le 22, 3, [91]),
  (72, .aload_n 0, 1, []),
  (73, .getfield 103, 3, [1043, 0, 5, 18]),
  (76, .i2l, 1, []),
  (77, .iload_n 1, 1, []),
  (78, .i2l, 1, []),
  (79, .iload_n 2, 1, []),
  (80, .i2l, 1, []),
  (81, .invokestatic 92, 3, [3, 144, 3, 0, 0, 0, 0, 1007, 1008, 119, 1009]),
  (84, .ifCond .eq 7, 3, [91]),
  (87, .iconst 1, 1, []),
  (88, .goto 4, 3, [92]),
  (91, .iconst 0, 1, []),
  (92, .ireturn, 1, [1])]
def mr146 (S : Nat → mv_Sp) (P : mv_Post) : mv_Kt := mv_R mv_DF mk146 S (0, 0) P
theorem e146_0 : mr146 S P 0 L st sh M c s = (q_isA (q_gv L 0) ∧ mr146 S P 1 L (q_gv L 0 :: st) sh M c s) := (propext (mv_R_iff (i := .aload_n 0) (len := 1) (ax := []) (by decide +kernel))).trans (q_ldA_eq (K := fun st => mr146 S P 1 L st sh M c s))
theorem e146_1 {a : Nat} : mr146 S P 1 L (.ref a :: st) sh M c s = (mv_kgf sh M a 5 17 (mr146 S P) 4 L st c s) := propext (mv_R_iff (i := .getfield 96) (len := 3) (ax := [1042, 0, 5, 17]) (by decide +kernel))
theorem e146_4 {x : Int32} : mr146 S P 4 L (.int x :: st) sh M c s = (q_hs L 3 ∧ mr146 S P 5 (L.set 3 (some (.int x))) st sh M c s) := (propext (mv_R_iff (i := .istore_n 3) (len := 1) (ax := []) (by decide +kernel))).trans (q_st_eq (K := fun L => mr146 S P 5 L st sh M c s))
theorem e146_5 : mr146 S P 5 L st sh M c s = (q_isA (q_gv L 0) ∧ mr146 S P 6 L (q_gv L 0 :: st) sh M c s) := (propext (mv_R_iff (i := .aload_n 0) (len := 1) (ax := []) (by decide +kernel))).trans (q_ldA_eq (K := fun st => mr146 S P 6 L st sh M c s))
theorem e146_6 : mr146 S P 6 L st sh M c s = (mr146 S P 7 L (.int (nI 0) :: st) sh M c s) := propext (mv_R_iff (i := .iconst 0) (len := 1) (ax := []) (by decide +kernel))
theorem e146_7 {x : Int32} {a : Nat} : mr146 S P 7 L (.int x :: .ref a :: st) sh M c s = (True ∧ mv_kpf sh M a 5 18 x (mr146 S P) 10 L st c s) := propext (mv_R_iff (i := .putfield 103) (len := 3) (ax := [1043, 0, 5, 18, 0]) (by decide +kernel))
theorem e146_10 : mr146 S P 10 L st sh M c s = (q_isA (q_gv L 0) ∧ mr146 S P 11 L (q_gv L 0 :: st) sh M c s) := (propext (mv_R_iff (i := .aload_n 0) (len := 1) (ax := []) (by decide +kernel))).trans (q_ldA_eq (K := fun st => mr146 S P 11 L st sh M c s))
theorem e146_11 {a : Nat} : mr146 S P 11 L (.ref a :: st) sh M c s = (mv_kgf sh M a 5 17 (mr146 S P) 14 L st c s) := propext (mv_R_iff (i := .getfield 96) (len := 3) (ax := [1042, 0, 5, 17]) (by decide +kernel))
theorem e146_14 : mr146 S P 14 L st sh M c s = (q_isI (q_gv L 3) ∧ mr146 S P 15 L (q_gv L 3 :: st) sh M c s) := (propext (mv_R_iff (i := .iload_n 3) (len := 1) (ax := []) (by decide +kernel))).trans (q_ldI_eq (K := fun st => mr146 S P 15 L st sh M c s))
theorem e146_15 : mr146 S P 15 L st sh M c s = (mr146 S P 16 L (.int (nI 2) :: st) sh M c s) := propext (mv_R_iff (i := .iconst 2) (len := 1) (ax := []) (by decide +kernel))
theorem e146_16 {y : Int32} {x : Int32} : mr146 S P 16 L (.int y :: .int x :: st) sh M c s = (mr146 S P 17 L (.int (x + y) :: st) sh M c s) := propext (mv_R_iff (i := .iadd) (len := 1) (ax := []) (by decide +kernel))
theorem e146_17 {y : Int32} {x : Int32} : mr146 S P 17 L (.int y :: .int x :: st) sh M c s = (if y ≤ x then mr146 S P 64 L st sh M c s else mr146 S P 20 L st sh M c s) := (propext (mv_R_iff (i := .if_icmp .ge 47) (len := 3) (ax := [64]) (by decide +kernel))).trans (q_br)
theorem e146_20 : mr146 S P 20 L st sh M c s = (q_isA (q_gv L 0) ∧ mr146 S P 21 L (q_gv L 0 :: st) sh M c s) := (propext (mv_R_iff (i := .aload_n 0) (len := 1) (ax := []) (by decide +kernel))).trans (q_ldA_eq (K := fun st => mr146 S P 21 L st sh M c s))
theorem e146_21 {v1 : Value} : mr146 S P 21 L (v1 :: st) sh M c s = (mv_ss st ≤ 8 ∧ c ≤ 0 ∧ s ≤ 0 ∧ mv_isO sh (some v1) 5 ∧ mv_kal S 145 [v1] sh M (mr146 S P) 24 L st c s) := (propext (mv_R_iff (i := .invokevirtual 106) (len := 3) (ax := [0, 145, 1, 5, 0, 0, 0, 1001, 1003, 75, 119, 1004]) (by decide +kernel))).trans (q_call0)
theorem e146_24 {x : Int32} : mr146 S P 24 L (.int x :: st) sh M c s = (if x = nI 0 then mr146 S P 64 L st sh M c s else mr146 S P 27 L st sh M c s) := (propext (mv_R_iff (i := .ifCond .eq 40) (len := 3) (ax := [64]) (by decide +kernel))).trans (q_br)
theorem e146_27 : mr146 S P 27 L st sh M c s = (q_isA (q_gv L 0) ∧ mr146 S P 28 L (q_gv L 0 :: st) sh M c s) := (propext (mv_R_iff (i := .aload_n 0) (len := 1) (ax := []) (by decide +kernel))).trans (q_ldA_eq (K := fun st => mr146 S P 28 L st sh M c s))
theorem e146_28 : mr146 S P 28 L st sh M c s = (mr146 S P 30 L (.int (nI 10) :: st) sh M c s) := propext (mv_R_iff (i := .bipush 10) (len := 2) (ax := []) (by decide +kernel))
theorem e146_30 : mr146 S P 30 L st sh M c s = (q_isA (q_gv L 0) ∧ mr146 S P 31 L (q_gv L 0 :: st) sh M c s) := (propext (mv_R_iff (i := .aload_n 0) (len := 1) (ax := []) (by decide +kernel))).trans (q_ldA_eq (K := fun st => mr146 S P 31 L st sh M c s))
theorem e146_31 {a : Nat} : mr146 S P 31 L (.ref a :: st) sh M c s = (mv_kgf sh M a 5 18 (mr146 S P) 34 L st c s) := propext (mv_R_iff (i := .getfield 103) (len := 3) (ax := [1043, 0, 5, 18]) (by decide +kernel))
theorem e146_34 {y : Int32} {x : Int32} : mr146 S P 34 L (.int y :: .int x :: st) sh M c s = (mr146 S P 35 L (.int (x * y) :: st) sh M c s) := propext (mv_R_iff (i := .imul) (len := 1) (ax := []) (by decide +kernel))
theorem e146_35 : mr146 S P 35 L st sh M c s = (q_isA (q_gv L 0) ∧ mr146 S P 36 L (q_gv L 0 :: st) sh M c s) := (propext (mv_R_iff (i := .aload_n 0) (len := 1) (ax := []) (by decide +kernel))).trans (q_ldA_eq (K := fun st => mr146 S P 36 L st sh M c s))
theorem e146_36 {a : Nat} : mr146 S P 36 L (.ref a :: st) sh M c s = (mv_kgf sh M a 5 12 (mr146 S P) 39 L st c s) := propext (mv_R_iff (i := .getfield 28) (len := 3) (ax := [1037, 0, 5, 12]) (by decide +kernel))
theorem e146_39 : mr146 S P 39 L st sh M c s = (q_isA (q_gv L 0) ∧ mr146 S P 40 L (q_gv L 0 :: st) sh M c s) := (propext (mv_R_iff (i := .aload_n 0) (len := 1) (ax := []) (by decide +kernel))).trans (q_ldA_eq (K := fun st => mr146 S P 40 L st sh M c s))
theorem e146_40 {a : Nat} : mr146 S P 40 L (.ref a :: st) sh M c s = (mv_kgf sh M a 5 17 (mr146 S P) 43 L st c s) := propext (mv_R_iff (i := .getfield 96) (len := 3) (ax := [1042, 0, 5, 17]) (by decide +kernel))
theorem e146_43 {i : Int32} {a : Nat} : mr146 S P 43 L (.int i :: .ref a :: st) sh M c s = (mv_kld sh M a i (mr146 S P) 44 L st c s) := propext (mv_R_iff (i := .iaload) (len := 1) (ax := []) (by decide +kernel))
theorem e146_44 {y : Int32} {x : Int32} : mr146 S P 44 L (.int y :: .int x :: st) sh M c s = (mr146 S P 45 L (.int (x + y) :: st) sh M c s) := propext (mv_R_iff (i := .iadd) (len := 1) (ax := []) (by decide +kernel))
theorem e146_45 : mr146 S P 45 L st sh M c s = (mr146 S P 47 L (.int (nI 48) :: st) sh M c s) := propext (mv_R_iff (i := .bipush 48) (len := 2) (ax := []) (by decide +kernel))
theorem e146_47 {y : Int32} {x : Int32} : mr146 S P 47 L (.int y :: .int x :: st) sh M c s = (mr146 S P 48 L (.int (x - y) :: st) sh M c s) := propext (mv_R_iff (i := .isub) (len := 1) (ax := []) (by decide +kernel))
theorem e146_48 {x : Int32} {a : Nat} : mr146 S P 48 L (.int x :: .ref a :: st) sh M c s = (True ∧ mv_kpf sh M a 5 18 x (mr146 S P) 51 L st c s) := propext (mv_R_iff (i := .putfield 103) (len := 3) (ax := [1043, 0, 5, 18, 0]) (by decide +kernel))
theorem e146_51 : mr146 S P 51 L st sh M c s = (q_isA (q_gv L 0) ∧ mr146 S P 52 L (q_gv L 0 :: st) sh M c s) := (propext (mv_R_iff (i := .aload_n 0) (len := 1) (ax := []) (by decide +kernel))).trans (q_ldA_eq (K := fun st => mr146 S P 52 L st sh M c s))
theorem e146_52 {x : Int32} : mr146 S P 52 L (.int x :: st) sh M c s = (mr146 S P 53 L (.int x :: .int x :: st) sh M c s) := propext (mv_R_iff (i := .dup) (len := 1) (ax := []) (by decide +kernel))
theorem e146_52r {x : Nat} : mr146 S P 52 L (.ref x :: st) sh M c s = (mr146 S P 53 L (.ref x :: .ref x :: st) sh M c s) := propext (mv_R_iff (i := .dup) (len := 1) (ax := []) (by decide +kernel))
theorem e146_53 {a : Nat} : mr146 S P 53 L (.ref a :: st) sh M c s = (mv_kgf sh M a 5 17 (mr146 S P) 56 L st c s) := propext (mv_R_iff (i := .getfield 96) (len := 3) (ax := [1042, 0, 5, 17]) (by decide +kernel))
theorem e146_56 : mr146 S P 56 L st sh M c s = (mr146 S P 57 L (.int (nI 1) :: st) sh M c s) := propext (mv_R_iff (i := .iconst 1) (len := 1) (ax := []) (by decide +kernel))
theorem e146_57 {y : Int32} {x : Int32} : mr146 S P 57 L (.int y :: .int x :: st) sh M c s = (mr146 S P 58 L (.int (x + y) :: st) sh M c s) := propext (mv_R_iff (i := .iadd) (len := 1) (ax := []) (by decide +kernel))
theorem e146_58 {x : Int32} {a : Nat} : mr146 S P 58 L (.int x :: .ref a :: st) sh M c s = (True ∧ mv_kpf sh M a 5 17 x (mr146 S P) 61 L st c s) := propext (mv_R_iff (i := .putfield 96) (len := 3) (ax := [1042, 0, 5, 17, 0]) (by decide +kernel))
theorem e146_61 : mr146 S P 61 L st sh M c s = (mr146 S P 10 L st sh M c s) := propext (mv_R_iff (i := .goto (-51)) (len := 3) (ax := [10]) (by decide +kernel))
theorem e146_64 : mr146 S P 64 L st sh M c s = (q_isA (q_gv L 0) ∧ mr146 S P 65 L (q_gv L 0 :: st) sh M c s) := (propext (mv_R_iff (i := .aload_n 0) (len := 1) (ax := []) (by decide +kernel))).trans (q_ldA_eq (K := fun st => mr146 S P 65 L st sh M c s))
theorem e146_65 {a : Nat} : mr146 S P 65 L (.ref a :: st) sh M c s = (mv_kgf sh M a 5 17 (mr146 S P) 68 L st c s) := propext (mv_R_iff (i := .getfield 96) (len := 3) (ax := [1042, 0, 5, 17]) (by decide +kernel))
theorem e146_68 : mr146 S P 68 L st sh M c s = (q_isI (q_gv L 3) ∧ mr146 S P 69 L (q_gv L 3 :: st) sh M c s) := (propext (mv_R_iff (i := .iload_n 3) (len := 1) (ax := []) (by decide +kernel))).trans (q_ldI_eq (K := fun st => mr146 S P 69 L st sh M c s))
theorem e146_69 {y : Int32} {x : Int32} : mr146 S P 69 L (.int y :: .int x :: st) sh M c s = (if x ≤ y then mr146 S P 91 L st sh M c s else mr146 S P 72 L st sh M c s) := (propext (mv_R_iff (i := .if_icmp .le 22) (len := 3) (ax := [91]) (by decide +kernel))).trans (q_br)
theorem e146_72 : mr146 S P 72 L st sh M c s = (q_isA (q_gv L 0) ∧ mr146 S P 73 L (q_gv L 0 :: st) sh M c s) := (propext (mv_R_iff (i := .aload_n 0) (len := 1) (ax := []) (by decide +kernel))).trans (q_ldA_eq (K := fun st => mr146 S P 73 L st sh M c s))
theorem e146_73 {a : Nat} : mr146 S P 73 L (.ref a :: st) sh M c s = (mv_kgf sh M a 5 18 (mr146 S P) 76 L st c s) := propext (mv_R_iff (i := .getfield 103) (len := 3) (ax := [1043, 0, 5, 18]) (by decide +kernel))
theorem e146_76 {x : Int32} : mr146 S P 76 L (.int x :: st) sh M c s = (mr146 S P 77 L (.long x.toInt64 :: st) sh M c s) := propext (mv_R_iff (i := .i2l) (len := 1) (ax := []) (by decide +kernel))
theorem e146_77 : mr146 S P 77 L st sh M c s = (q_isI (q_gv L 1) ∧ mr146 S P 78 L (q_gv L 1 :: st) sh M c s) := (propext (mv_R_iff (i := .iload_n 1) (len := 1) (ax := []) (by decide +kernel))).trans (q_ldI_eq (K := fun st => mr146 S P 78 L st sh M c s))
theorem e146_78 {x : Int32} : mr146 S P 78 L (.int x :: st) sh M c s = (mr146 S P 79 L (.long x.toInt64 :: st) sh M c s) := propext (mv_R_iff (i := .i2l) (len := 1) (ax := []) (by decide +kernel))
theorem e146_79 : mr146 S P 79 L st sh M c s = (q_isI (q_gv L 2) ∧ mr146 S P 80 L (q_gv L 2 :: st) sh M c s) := (propext (mv_R_iff (i := .iload_n 2) (len := 1) (ax := []) (by decide +kernel))).trans (q_ldI_eq (K := fun st => mr146 S P 80 L st sh M c s))
theorem e146_80 {x : Int32} : mr146 S P 80 L (.int x :: st) sh M c s = (mr146 S P 81 L (.long x.toInt64 :: st) sh M c s) := propext (mv_R_iff (i := .i2l) (len := 1) (ax := []) (by decide +kernel))
theorem e146_81 {v3 : Value} {v2 : Value} {v1 : Value} : mr146 S P 81 L (v3 :: v2 :: v1 :: st) sh M c s = (mv_ss st ≤ 8 ∧ c ≤ 0 ∧ s ≤ 0 ∧ True ∧ mv_kal S 144 [v1, v2, v3] sh M (mr146 S P) 84 L st c s) := (propext (mv_R_iff (i := .invokestatic 92) (len := 3) (ax := [3, 144, 3, 0, 0, 0, 0, 1007, 1008, 119, 1009]) (by decide +kernel))).trans (q_call3)
theorem e146_84 {x : Int32} : mr146 S P 84 L (.int x :: st) sh M c s = (if x = nI 0 then mr146 S P 91 L st sh M c s else mr146 S P 87 L st sh M c s) := (propext (mv_R_iff (i := .ifCond .eq 7) (len := 3) (ax := [91]) (by decide +kernel))).trans (q_br)
theorem e146_87 : mr146 S P 87 L st sh M c s = (mr146 S P 88 L (.int (nI 1) :: st) sh M c s) := propext (mv_R_iff (i := .iconst 1) (len := 1) (ax := []) (by decide +kernel))
theorem e146_88 : mr146 S P 88 L st sh M c s = (mr146 S P 92 L st sh M c s) := propext (mv_R_iff (i := .goto 4) (len := 3) (ax := [92]) (by decide +kernel))
theorem e146_91 : mr146 S P 91 L st sh M c s = (mr146 S P 92 L (.int (nI 0) :: st) sh M c s) := propext (mv_R_iff (i := .iconst 0) (len := 1) (ax := []) (by decide +kernel))
theorem e146_92 {x : Int32} : mr146 S P 92 L [.int x] sh M c s = (mv_nr 1 x ∧ P (some (.int x)) sh M) := propext (mv_R_iff (i := .ireturn) (len := 1) (ax := [1]) (by decide +kernel))
-- 147: TurnedTabletsModel.readsTablet()Z
def mk147 : mv_Cd := [
  (0, .aload_n 0, 1, []),
  (1, .getfield 110, 3, [1044, 0, 5, 19]),
  (4, .istore_n 1, 1, []),
  (5, .iload_n 1, 1, []),
  (6, .bipush 6, 2, []),
  (8, .if_icmp .eq 12, 3, [20]),
  (11, .aload_n 0, 1, []),
  (12, .iconst 0, 1, []),
  (13, .iconst 3, 1, []),
  (14, .invokevirtual 113, 3, [0, 146, 3, 5, 0, 0, 0, 997, 999, 74, 119, 1000]),
  (17, .ifCond .ne 5, 3, [22]),
  (20, .iconst 0, 1, []),
  (21, .ireturn, 1, [1]),
  (22, .aload_n 0, 1, []),
  (23, .getfield 37, 3, [1045, 0, 5, 20]),
  (26, .iload_n 1, 1, []),
  (27, .aload_n 0, 1, []),
  (28, .getfield 103, 3, [1043, 0, 5, 18]),
  (31, .iastore, 1, []),
  (32, .aload_n 0, 1, []),
  (33, .bipush 44, 2, []),
  (35, .invokevirtual 117, 3, [0, 143, 2, 5, 0, 0, 0, 989, 991, 72, 119, 992]),
  (38, .ifCond .eq 12, 3, [50]),
  (41, .aload_n 0, 1, []),
  (42, .iconst 0, 1, []),
  (43, .iconst 1, 1, []),
  (44, .invokevirtual 113, 3, [0, 146, 3, 5, 0, 0, 0, 997, 999, 74, 119, 1000]),
  (47, .ifCond .ne 5, 3, [52]),
  (50, .iconst 0, 1, []),
  (51, .ireturn, 1, [1]),
  (52, .aload_n 0, 1, []),
  (53, .getfield 40, 3, [1046, 0, 5, 21]),
  (56, .iload_n 1, 1, []),
  (57, .aload_n 0, 1, []),
  (58, .getfield 103, 3, [1043, 0, 5, 18]),
  (61, .iastore, 1, []),
  (62, .aload_n 0, 1, []),
  (63, .bipush 44, 2, []),
  (65, .invokevirtual 117, 3, [0, 143, 2, 5, 0, 0, 0, 989, 991, 72, 119, 992]),
  (68, .ifCond .ne 5, 3, [73]),
  (71, .iconst 0, 1, []),
  (72, .ireturn, 1, [1]),
  (73, .iconst 0, 1, []),
  (74, .istore_n 2, 1, []),
  (75, .iload_n 2, 1, []),
  (76, .iconst 4, 1, []),
  (77, .if_icmp .ge 50, 3, [127]),
  (80, .aload_n 0, 1, []),
  (81, .invokevirtual 106, 3, [0, 145, 1, 5, 0, 0, 0, 1001, 1003, 75, 119, 1004]),
  (84, .ifCond .ne 5, 3, [89]),
  (87, .iconst 0, 1, []),
  (88, .ireturn, 1, [1]),
  (89, .aload_n 0, 1, []),
  (90, .getfield 43, 3, [1047, 0, 5, 22]),
  (93, .iconst 4, 1, []),
  (94, .iload_n 1, 1, []),
  (95, .imul, 1, []),
  (96, .iload_n 2, 1, []),
  (97, .iadd, 1, []),
  (98, .aload_n 0, 1, []),
  (99, .getfield 28, 3, [1037, 0, 5, 12]),
  (102, .aload_n 0, 1, []),
  (103, .getfield 96, 3, [1042, 0, 5, 17]),
  (106, .iaload, 1, []),
  (107, .bipush 48, 2, []),
  (109, .isub, 1, []),
  (110, .iastore, 1, []),
  (111, .aload_n 0, 1, []),
  (112, .dup, 1, []),
  (113, .getfield 96, 3, [1042, 0, 5, 17]),
  (116, .iconst 1, 1, []),
  (117, .iadd, 1, []),
  (118, .putfield 96, 3, [1042, 0, 5, 17, 0]),
  (121, .iinc 2 1, 3, []),
  (124, .goto (-49), 3, [75]),
  (127, .aload_n 0, 1, []),
  (128, .dup, 1, []),
  (129, .getfield 110, 3, [1044, 0, 5, 19]),
  (132, .iconst 1, 1, []),
  (133, .iadd, 1, []),
  (134, .putfield 110, 3, [1044, 0, 5, 19, 0]),
  (137, .iconst 1, 1, []),
  (138, .ireturn, 1, [1])]
def mr147 (S : Nat → mv_Sp) (P : mv_Post) : mv_Kt := mv_R mv_DF mk147 S (0, 0) P
theorem e147_0 : mr147 S P 0 L st sh M c s = (q_isA (q_gv L 0) ∧ mr147 S P 1 L (q_gv L 0 :: st) sh M c s) := (propext (mv_R_iff (i := .aload_n 0) (len := 1) (ax := []) (by decide +kernel))).trans (q_ldA_eq (K := fun st => mr147 S P 1 L st sh M c s))
theorem e147_1 {a : Nat} : mr147 S P 1 L (.ref a :: st) sh M c s = (mv_kgf sh M a 5 19 (mr147 S P) 4 L st c s) := propext (mv_R_iff (i := .getfield 110) (len := 3) (ax := [1044, 0, 5, 19]) (by decide +kernel))
theorem e147_4 {x : Int32} : mr147 S P 4 L (.int x :: st) sh M c s = (q_hs L 1 ∧ mr147 S P 5 (L.set 1 (some (.int x))) st sh M c s) := (propext (mv_R_iff (i := .istore_n 1) (len := 1) (ax := []) (by decide +kernel))).trans (q_st_eq (K := fun L => mr147 S P 5 L st sh M c s))
theorem e147_5 : mr147 S P 5 L st sh M c s = (q_isI (q_gv L 1) ∧ mr147 S P 6 L (q_gv L 1 :: st) sh M c s) := (propext (mv_R_iff (i := .iload_n 1) (len := 1) (ax := []) (by decide +kernel))).trans (q_ldI_eq (K := fun st => mr147 S P 6 L st sh M c s))
theorem e147_6 : mr147 S P 6 L st sh M c s = (mr147 S P 8 L (.int (nI 6) :: st) sh M c s) := propext (mv_R_iff (i := .bipush 6) (len := 2) (ax := []) (by decide +kernel))
theorem e147_8 {y : Int32} {x : Int32} : mr147 S P 8 L (.int y :: .int x :: st) sh M c s = (if x = y then mr147 S P 20 L st sh M c s else mr147 S P 11 L st sh M c s) := (propext (mv_R_iff (i := .if_icmp .eq 12) (len := 3) (ax := [20]) (by decide +kernel))).trans (q_br)
theorem e147_11 : mr147 S P 11 L st sh M c s = (q_isA (q_gv L 0) ∧ mr147 S P 12 L (q_gv L 0 :: st) sh M c s) := (propext (mv_R_iff (i := .aload_n 0) (len := 1) (ax := []) (by decide +kernel))).trans (q_ldA_eq (K := fun st => mr147 S P 12 L st sh M c s))
theorem e147_12 : mr147 S P 12 L st sh M c s = (mr147 S P 13 L (.int (nI 0) :: st) sh M c s) := propext (mv_R_iff (i := .iconst 0) (len := 1) (ax := []) (by decide +kernel))
theorem e147_13 : mr147 S P 13 L st sh M c s = (mr147 S P 14 L (.int (nI 3) :: st) sh M c s) := propext (mv_R_iff (i := .iconst 3) (len := 1) (ax := []) (by decide +kernel))
theorem e147_14 {v3 : Value} {v2 : Value} {v1 : Value} : mr147 S P 14 L (v3 :: v2 :: v1 :: st) sh M c s = (mv_ss st ≤ 8 ∧ c ≤ 0 ∧ s ≤ 0 ∧ mv_isO sh (some v1) 5 ∧ mv_kal S 146 [v1, v2, v3] sh M (mr147 S P) 17 L st c s) := (propext (mv_R_iff (i := .invokevirtual 113) (len := 3) (ax := [0, 146, 3, 5, 0, 0, 0, 997, 999, 74, 119, 1000]) (by decide +kernel))).trans (q_call0)
theorem e147_17 {x : Int32} : mr147 S P 17 L (.int x :: st) sh M c s = (if x = nI 0 then mr147 S P 20 L st sh M c s else mr147 S P 22 L st sh M c s) := (propext (mv_R_iff (i := .ifCond .ne 5) (len := 3) (ax := [22]) (by decide +kernel))).trans (q_br')
theorem e147_20 : mr147 S P 20 L st sh M c s = (mr147 S P 21 L (.int (nI 0) :: st) sh M c s) := propext (mv_R_iff (i := .iconst 0) (len := 1) (ax := []) (by decide +kernel))
theorem e147_21 {x : Int32} : mr147 S P 21 L [.int x] sh M c s = (mv_nr 1 x ∧ P (some (.int x)) sh M) := propext (mv_R_iff (i := .ireturn) (len := 1) (ax := [1]) (by decide +kernel))
theorem e147_22 : mr147 S P 22 L st sh M c s = (q_isA (q_gv L 0) ∧ mr147 S P 23 L (q_gv L 0 :: st) sh M c s) := (propext (mv_R_iff (i := .aload_n 0) (len := 1) (ax := []) (by decide +kernel))).trans (q_ldA_eq (K := fun st => mr147 S P 23 L st sh M c s))
theorem e147_23 {a : Nat} : mr147 S P 23 L (.ref a :: st) sh M c s = (mv_kgf sh M a 5 20 (mr147 S P) 26 L st c s) := propext (mv_R_iff (i := .getfield 37) (len := 3) (ax := [1045, 0, 5, 20]) (by decide +kernel))
theorem e147_26 : mr147 S P 26 L st sh M c s = (q_isI (q_gv L 1) ∧ mr147 S P 27 L (q_gv L 1 :: st) sh M c s) := (propext (mv_R_iff (i := .iload_n 1) (len := 1) (ax := []) (by decide +kernel))).trans (q_ldI_eq (K := fun st => mr147 S P 27 L st sh M c s))
theorem e147_27 : mr147 S P 27 L st sh M c s = (q_isA (q_gv L 0) ∧ mr147 S P 28 L (q_gv L 0 :: st) sh M c s) := (propext (mv_R_iff (i := .aload_n 0) (len := 1) (ax := []) (by decide +kernel))).trans (q_ldA_eq (K := fun st => mr147 S P 28 L st sh M c s))
theorem e147_28 {a : Nat} : mr147 S P 28 L (.ref a :: st) sh M c s = (mv_kgf sh M a 5 18 (mr147 S P) 31 L st c s) := propext (mv_R_iff (i := .getfield 103) (len := 3) (ax := [1043, 0, 5, 18]) (by decide +kernel))
theorem e147_31 {x : Int32} {i : Int32} {a : Nat} : mr147 S P 31 L (.int x :: .int i :: .ref a :: st) sh M c s = (mv_kst sh M a i x (mr147 S P) 32 L st c s) := propext (mv_R_iff (i := .iastore) (len := 1) (ax := []) (by decide +kernel))
theorem e147_32 : mr147 S P 32 L st sh M c s = (q_isA (q_gv L 0) ∧ mr147 S P 33 L (q_gv L 0 :: st) sh M c s) := (propext (mv_R_iff (i := .aload_n 0) (len := 1) (ax := []) (by decide +kernel))).trans (q_ldA_eq (K := fun st => mr147 S P 33 L st sh M c s))
theorem e147_33 : mr147 S P 33 L st sh M c s = (mr147 S P 35 L (.int (nI 44) :: st) sh M c s) := propext (mv_R_iff (i := .bipush 44) (len := 2) (ax := []) (by decide +kernel))
theorem e147_35 {v2 : Value} {v1 : Value} : mr147 S P 35 L (v2 :: v1 :: st) sh M c s = (mv_ss st ≤ 8 ∧ c ≤ 0 ∧ s ≤ 0 ∧ mv_isO sh (some v1) 5 ∧ mv_kal S 143 [v1, v2] sh M (mr147 S P) 38 L st c s) := (propext (mv_R_iff (i := .invokevirtual 117) (len := 3) (ax := [0, 143, 2, 5, 0, 0, 0, 989, 991, 72, 119, 992]) (by decide +kernel))).trans (q_call0)
theorem e147_38 {x : Int32} : mr147 S P 38 L (.int x :: st) sh M c s = (if x = nI 0 then mr147 S P 50 L st sh M c s else mr147 S P 41 L st sh M c s) := (propext (mv_R_iff (i := .ifCond .eq 12) (len := 3) (ax := [50]) (by decide +kernel))).trans (q_br)
theorem e147_41 : mr147 S P 41 L st sh M c s = (q_isA (q_gv L 0) ∧ mr147 S P 42 L (q_gv L 0 :: st) sh M c s) := (propext (mv_R_iff (i := .aload_n 0) (len := 1) (ax := []) (by decide +kernel))).trans (q_ldA_eq (K := fun st => mr147 S P 42 L st sh M c s))
theorem e147_42 : mr147 S P 42 L st sh M c s = (mr147 S P 43 L (.int (nI 0) :: st) sh M c s) := propext (mv_R_iff (i := .iconst 0) (len := 1) (ax := []) (by decide +kernel))
theorem e147_43 : mr147 S P 43 L st sh M c s = (mr147 S P 44 L (.int (nI 1) :: st) sh M c s) := propext (mv_R_iff (i := .iconst 1) (len := 1) (ax := []) (by decide +kernel))
theorem e147_44 {v3 : Value} {v2 : Value} {v1 : Value} : mr147 S P 44 L (v3 :: v2 :: v1 :: st) sh M c s = (mv_ss st ≤ 8 ∧ c ≤ 0 ∧ s ≤ 0 ∧ mv_isO sh (some v1) 5 ∧ mv_kal S 146 [v1, v2, v3] sh M (mr147 S P) 47 L st c s) := (propext (mv_R_iff (i := .invokevirtual 113) (len := 3) (ax := [0, 146, 3, 5, 0, 0, 0, 997, 999, 74, 119, 1000]) (by decide +kernel))).trans (q_call0)
theorem e147_47 {x : Int32} : mr147 S P 47 L (.int x :: st) sh M c s = (if x = nI 0 then mr147 S P 50 L st sh M c s else mr147 S P 52 L st sh M c s) := (propext (mv_R_iff (i := .ifCond .ne 5) (len := 3) (ax := [52]) (by decide +kernel))).trans (q_br')
theorem e147_50 : mr147 S P 50 L st sh M c s = (mr147 S P 51 L (.int (nI 0) :: st) sh M c s) := propext (mv_R_iff (i := .iconst 0) (len := 1) (ax := []) (by decide +kernel))
theorem e147_51 {x : Int32} : mr147 S P 51 L [.int x] sh M c s = (mv_nr 1 x ∧ P (some (.int x)) sh M) := propext (mv_R_iff (i := .ireturn) (len := 1) (ax := [1]) (by decide +kernel))
theorem e147_52 : mr147 S P 52 L st sh M c s = (q_isA (q_gv L 0) ∧ mr147 S P 53 L (q_gv L 0 :: st) sh M c s) := (propext (mv_R_iff (i := .aload_n 0) (len := 1) (ax := []) (by decide +kernel))).trans (q_ldA_eq (K := fun st => mr147 S P 53 L st sh M c s))
theorem e147_53 {a : Nat} : mr147 S P 53 L (.ref a :: st) sh M c s = (mv_kgf sh M a 5 21 (mr147 S P) 56 L st c s) := propext (mv_R_iff (i := .getfield 40) (len := 3) (ax := [1046, 0, 5, 21]) (by decide +kernel))
theorem e147_56 : mr147 S P 56 L st sh M c s = (q_isI (q_gv L 1) ∧ mr147 S P 57 L (q_gv L 1 :: st) sh M c s) := (propext (mv_R_iff (i := .iload_n 1) (len := 1) (ax := []) (by decide +kernel))).trans (q_ldI_eq (K := fun st => mr147 S P 57 L st sh M c s))
theorem e147_57 : mr147 S P 57 L st sh M c s = (q_isA (q_gv L 0) ∧ mr147 S P 58 L (q_gv L 0 :: st) sh M c s) := (propext (mv_R_iff (i := .aload_n 0) (len := 1) (ax := []) (by decide +kernel))).trans (q_ldA_eq (K := fun st => mr147 S P 58 L st sh M c s))
theorem e147_58 {a : Nat} : mr147 S P 58 L (.ref a :: st) sh M c s = (mv_kgf sh M a 5 18 (mr147 S P) 61 L st c s) := propext (mv_R_iff (i := .getfield 103) (len := 3) (ax := [1043, 0, 5, 18]) (by decide +kernel))
theorem e147_61 {x : Int32} {i : Int32} {a : Nat} : mr147 S P 61 L (.int x :: .int i :: .ref a :: st) sh M c s = (mv_kst sh M a i x (mr147 S P) 62 L st c s) := propext (mv_R_iff (i := .iastore) (len := 1) (ax := []) (by decide +kernel))
theorem e147_62 : mr147 S P 62 L st sh M c s = (q_isA (q_gv L 0) ∧ mr147 S P 63 L (q_gv L 0 :: st) sh M c s) := (propext (mv_R_iff (i := .aload_n 0) (len := 1) (ax := []) (by decide +kernel))).trans (q_ldA_eq (K := fun st => mr147 S P 63 L st sh M c s))
theorem e147_63 : mr147 S P 63 L st sh M c s = (mr147 S P 65 L (.int (nI 44) :: st) sh M c s) := propext (mv_R_iff (i := .bipush 44) (len := 2) (ax := []) (by decide +kernel))
theorem e147_65 {v2 : Value} {v1 : Value} : mr147 S P 65 L (v2 :: v1 :: st) sh M c s = (mv_ss st ≤ 8 ∧ c ≤ 0 ∧ s ≤ 0 ∧ mv_isO sh (some v1) 5 ∧ mv_kal S 143 [v1, v2] sh M (mr147 S P) 68 L st c s) := (propext (mv_R_iff (i := .invokevirtual 117) (len := 3) (ax := [0, 143, 2, 5, 0, 0, 0, 989, 991, 72, 119, 992]) (by decide +kernel))).trans (q_call0)
theorem e147_68 {x : Int32} : mr147 S P 68 L (.int x :: st) sh M c s = (if x = nI 0 then mr147 S P 71 L st sh M c s else mr147 S P 73 L st sh M c s) := (propext (mv_R_iff (i := .ifCond .ne 5) (len := 3) (ax := [73]) (by decide +kernel))).trans (q_br')
theorem e147_71 : mr147 S P 71 L st sh M c s = (mr147 S P 72 L (.int (nI 0) :: st) sh M c s) := propext (mv_R_iff (i := .iconst 0) (len := 1) (ax := []) (by decide +kernel))
theorem e147_72 {x : Int32} : mr147 S P 72 L [.int x] sh M c s = (mv_nr 1 x ∧ P (some (.int x)) sh M) := propext (mv_R_iff (i := .ireturn) (len := 1) (ax := [1]) (by decide +kernel))
theorem e147_73 : mr147 S P 73 L st sh M c s = (mr147 S P 74 L (.int (nI 0) :: st) sh M c s) := propext (mv_R_iff (i := .iconst 0) (len := 1) (ax := []) (by decide +kernel))
theorem e147_74 {x : Int32} : mr147 S P 74 L (.int x :: st) sh M c s = (q_hs L 2 ∧ mr147 S P 75 (L.set 2 (some (.int x))) st sh M c s) := (propext (mv_R_iff (i := .istore_n 2) (len := 1) (ax := []) (by decide +kernel))).trans (q_st_eq (K := fun L => mr147 S P 75 L st sh M c s))
theorem e147_75 : mr147 S P 75 L st sh M c s = (q_isI (q_gv L 2) ∧ mr147 S P 76 L (q_gv L 2 :: st) sh M c s) := (propext (mv_R_iff (i := .iload_n 2) (len := 1) (ax := []) (by decide +kernel))).trans (q_ldI_eq (K := fun st => mr147 S P 76 L st sh M c s))
theorem e147_76 : mr147 S P 76 L st sh M c s = (mr147 S P 77 L (.int (nI 4) :: st) sh M c s) := propext (mv_R_iff (i := .iconst 4) (len := 1) (ax := []) (by decide +kernel))
theorem e147_77 {y : Int32} {x : Int32} : mr147 S P 77 L (.int y :: .int x :: st) sh M c s = (if y ≤ x then mr147 S P 127 L st sh M c s else mr147 S P 80 L st sh M c s) := (propext (mv_R_iff (i := .if_icmp .ge 50) (len := 3) (ax := [127]) (by decide +kernel))).trans (q_br)
theorem e147_80 : mr147 S P 80 L st sh M c s = (q_isA (q_gv L 0) ∧ mr147 S P 81 L (q_gv L 0 :: st) sh M c s) := (propext (mv_R_iff (i := .aload_n 0) (len := 1) (ax := []) (by decide +kernel))).trans (q_ldA_eq (K := fun st => mr147 S P 81 L st sh M c s))
theorem e147_81 {v1 : Value} : mr147 S P 81 L (v1 :: st) sh M c s = (mv_ss st ≤ 8 ∧ c ≤ 0 ∧ s ≤ 0 ∧ mv_isO sh (some v1) 5 ∧ mv_kal S 145 [v1] sh M (mr147 S P) 84 L st c s) := (propext (mv_R_iff (i := .invokevirtual 106) (len := 3) (ax := [0, 145, 1, 5, 0, 0, 0, 1001, 1003, 75, 119, 1004]) (by decide +kernel))).trans (q_call0)
theorem e147_84 {x : Int32} : mr147 S P 84 L (.int x :: st) sh M c s = (if x = nI 0 then mr147 S P 87 L st sh M c s else mr147 S P 89 L st sh M c s) := (propext (mv_R_iff (i := .ifCond .ne 5) (len := 3) (ax := [89]) (by decide +kernel))).trans (q_br')
theorem e147_87 : mr147 S P 87 L st sh M c s = (mr147 S P 88 L (.int (nI 0) :: st) sh M c s) := propext (mv_R_iff (i := .iconst 0) (len := 1) (ax := []) (by decide +kernel))
theorem e147_88 {x : Int32} : mr147 S P 88 L [.int x] sh M c s = (mv_nr 1 x ∧ P (some (.int x)) sh M) := propext (mv_R_iff (i := .ireturn) (len := 1) (ax := [1]) (by decide +kernel))
theorem e147_89 : mr147 S P 89 L st sh M c s = (q_isA (q_gv L 0) ∧ mr147 S P 90 L (q_gv L 0 :: st) sh M c s) := (propext (mv_R_iff (i := .aload_n 0) (len := 1) (ax := []) (by decide +kernel))).trans (q_ldA_eq (K := fun st => mr147 S P 90 L st sh M c s))
theorem e147_90 {a : Nat} : mr147 S P 90 L (.ref a :: st) sh M c s = (mv_kgf sh M a 5 22 (mr147 S P) 93 L st c s) := propext (mv_R_iff (i := .getfield 43) (len := 3) (ax := [1047, 0, 5, 22]) (by decide +kernel))
theorem e147_93 : mr147 S P 93 L st sh M c s = (mr147 S P 94 L (.int (nI 4) :: st) sh M c s) := propext (mv_R_iff (i := .iconst 4) (len := 1) (ax := []) (by decide +kernel))
theorem e147_94 : mr147 S P 94 L st sh M c s = (q_isI (q_gv L 1) ∧ mr147 S P 95 L (q_gv L 1 :: st) sh M c s) := (propext (mv_R_iff (i := .iload_n 1) (len := 1) (ax := []) (by decide +kernel))).trans (q_ldI_eq (K := fun st => mr147 S P 95 L st sh M c s))
theorem e147_95 {y : Int32} {x : Int32} : mr147 S P 95 L (.int y :: .int x :: st) sh M c s = (mr147 S P 96 L (.int (x * y) :: st) sh M c s) := propext (mv_R_iff (i := .imul) (len := 1) (ax := []) (by decide +kernel))
theorem e147_96 : mr147 S P 96 L st sh M c s = (q_isI (q_gv L 2) ∧ mr147 S P 97 L (q_gv L 2 :: st) sh M c s) := (propext (mv_R_iff (i := .iload_n 2) (len := 1) (ax := []) (by decide +kernel))).trans (q_ldI_eq (K := fun st => mr147 S P 97 L st sh M c s))
theorem e147_97 {y : Int32} {x : Int32} : mr147 S P 97 L (.int y :: .int x :: st) sh M c s = (mr147 S P 98 L (.int (x + y) :: st) sh M c s) := propext (mv_R_iff (i := .iadd) (len := 1) (ax := []) (by decide +kernel))
theorem e147_98 : mr147 S P 98 L st sh M c s = (q_isA (q_gv L 0) ∧ mr147 S P 99 L (q_gv L 0 :: st) sh M c s) := (propext (mv_R_iff (i := .aload_n 0) (len := 1) (ax := []) (by decide +kernel))).trans (q_ldA_eq (K := fun st => mr147 S P 99 L st sh M c s))
theorem e147_99 {a : Nat} : mr147 S P 99 L (.ref a :: st) sh M c s = (mv_kgf sh M a 5 12 (mr147 S P) 102 L st c s) := propext (mv_R_iff (i := .getfield 28) (len := 3) (ax := [1037, 0, 5, 12]) (by decide +kernel))
theorem e147_102 : mr147 S P 102 L st sh M c s = (q_isA (q_gv L 0) ∧ mr147 S P 103 L (q_gv L 0 :: st) sh M c s) := (propext (mv_R_iff (i := .aload_n 0) (len := 1) (ax := []) (by decide +kernel))).trans (q_ldA_eq (K := fun st => mr147 S P 103 L st sh M c s))
theorem e147_103 {a : Nat} : mr147 S P 103 L (.ref a :: st) sh M c s = (mv_kgf sh M a 5 17 (mr147 S P) 106 L st c s) := propext (mv_R_iff (i := .getfield 96) (len := 3) (ax := [1042, 0, 5, 17]) (by decide +kernel))
theorem e147_106 {i : Int32} {a : Nat} : mr147 S P 106 L (.int i :: .ref a :: st) sh M c s = (mv_kld sh M a i (mr147 S P) 107 L st c s) := propext (mv_R_iff (i := .iaload) (len := 1) (ax := []) (by decide +kernel))
theorem e147_107 : mr147 S P 107 L st sh M c s = (mr147 S P 109 L (.int (nI 48) :: st) sh M c s) := propext (mv_R_iff (i := .bipush 48) (len := 2) (ax := []) (by decide +kernel))
theorem e147_109 {y : Int32} {x : Int32} : mr147 S P 109 L (.int y :: .int x :: st) sh M c s = (mr147 S P 110 L (.int (x - y) :: st) sh M c s) := propext (mv_R_iff (i := .isub) (len := 1) (ax := []) (by decide +kernel))
theorem e147_110 {x : Int32} {i : Int32} {a : Nat} : mr147 S P 110 L (.int x :: .int i :: .ref a :: st) sh M c s = (mv_kst sh M a i x (mr147 S P) 111 L st c s) := propext (mv_R_iff (i := .iastore) (len := 1) (ax := []) (by decide +kernel))
theorem e147_111 : mr147 S P 111 L st sh M c s = (q_isA (q_gv L 0) ∧ mr147 S P 112 L (q_gv L 0 :: st) sh M c s) := (propext (mv_R_iff (i := .aload_n 0) (len := 1) (ax := []) (by decide +kernel))).trans (q_ldA_eq (K := fun st => mr147 S P 112 L st sh M c s))
theorem e147_112 {x : Int32} : mr147 S P 112 L (.int x :: st) sh M c s = (mr147 S P 113 L (.int x :: .int x :: st) sh M c s) := propext (mv_R_iff (i := .dup) (len := 1) (ax := []) (by decide +kernel))
theorem e147_112r {x : Nat} : mr147 S P 112 L (.ref x :: st) sh M c s = (mr147 S P 113 L (.ref x :: .ref x :: st) sh M c s) := propext (mv_R_iff (i := .dup) (len := 1) (ax := []) (by decide +kernel))
theorem e147_113 {a : Nat} : mr147 S P 113 L (.ref a :: st) sh M c s = (mv_kgf sh M a 5 17 (mr147 S P) 116 L st c s) := propext (mv_R_iff (i := .getfield 96) (len := 3) (ax := [1042, 0, 5, 17]) (by decide +kernel))
theorem e147_116 : mr147 S P 116 L st sh M c s = (mr147 S P 117 L (.int (nI 1) :: st) sh M c s) := propext (mv_R_iff (i := .iconst 1) (len := 1) (ax := []) (by decide +kernel))
theorem e147_117 {y : Int32} {x : Int32} : mr147 S P 117 L (.int y :: .int x :: st) sh M c s = (mr147 S P 118 L (.int (x + y) :: st) sh M c s) := propext (mv_R_iff (i := .iadd) (len := 1) (ax := []) (by decide +kernel))
theorem e147_118 {x : Int32} {a : Nat} : mr147 S P 118 L (.int x :: .ref a :: st) sh M c s = (True ∧ mv_kpf sh M a 5 17 x (mr147 S P) 121 L st c s) := propext (mv_R_iff (i := .putfield 96) (len := 3) (ax := [1042, 0, 5, 17, 0]) (by decide +kernel))
theorem e147_121 : mr147 S P 121 L st sh M c s = ((q_isI (q_gv L 2) ∧ q_hs L 2) ∧ mr147 S P 124 (L.set 2 (some (q_inc (q_gv L 2) (nI 1)))) st sh M c s) := (propext (mv_R_iff (i := .iinc 2 1) (len := 3) (ax := []) (by decide +kernel))).trans (q_inc_eq (K := fun L => mr147 S P 124 L st sh M c s))
theorem e147_124 : mr147 S P 124 L st sh M c s = (mr147 S P 75 L st sh M c s) := propext (mv_R_iff (i := .goto (-49)) (len := 3) (ax := [75]) (by decide +kernel))
theorem e147_127 : mr147 S P 127 L st sh M c s = (q_isA (q_gv L 0) ∧ mr147 S P 128 L (q_gv L 0 :: st) sh M c s) := (propext (mv_R_iff (i := .aload_n 0) (len := 1) (ax := []) (by decide +kernel))).trans (q_ldA_eq (K := fun st => mr147 S P 128 L st sh M c s))
theorem e147_128 {x : Int32} : mr147 S P 128 L (.int x :: st) sh M c s = (mr147 S P 129 L (.int x :: .int x :: st) sh M c s) := propext (mv_R_iff (i := .dup) (len := 1) (ax := []) (by decide +kernel))
theorem e147_128r {x : Nat} : mr147 S P 128 L (.ref x :: st) sh M c s = (mr147 S P 129 L (.ref x :: .ref x :: st) sh M c s) := propext (mv_R_iff (i := .dup) (len := 1) (ax := []) (by decide +kernel))
theorem e147_129 {a : Nat} : mr147 S P 129 L (.ref a :: st) sh M c s = (mv_kgf sh M a 5 19 (mr147 S P) 132 L st c s) := propext (mv_R_iff (i := .getfield 110) (len := 3) (ax := [1044, 0, 5, 19]) (by decide +kernel))
theorem e147_132 : mr147 S P 132 L st sh M c s = (mr147 S P 133 L (.int (nI 1) :: st) sh M c s) := propext (mv_R_iff (i := .iconst 1) (len := 1) (ax := []) (by decide +kernel))
theorem e147_133 {y : Int32} {x : Int32} : mr147 S P 133 L (.int y :: .int x :: st) sh M c s = (mr147 S P 134 L (.int (x + y) :: st) sh M c s) := propext (mv_R_iff (i := .iadd) (len := 1) (ax := []) (by decide +kernel))
theorem e147_134 {x : Int32} {a : Nat} : mr147 S P 134 L (.int x :: .ref a :: st) sh M c s = (True ∧ mv_kpf sh M a 5 19 x (mr147 S P) 137 L st c s) := propext (mv_R_iff (i := .putfield 110) (len := 3) (ax := [1044, 0, 5, 19, 0]) (by decide +kernel))
theorem e147_137 : mr147 S P 137 L st sh M c s = (mr147 S P 138 L (.int (nI 1) :: st) sh M c s) := propext (mv_R_iff (i := .iconst 1) (len := 1) (ax := []) (by decide +kernel))
theorem e147_138 {x : Int32} : mr147 S P 138 L [.int x] sh M c s = (mv_nr 1 x ∧ P (some (.int x)) sh M) := propext (mv_R_iff (i := .ireturn) (len := 1) (ax := [1]) (by decide +kernel))
-- 148: TurnedTabletsModel.has(II)Z
def mk148 : mv_Cd := [
  (0, .iload_n 0, 1, []),
  (1, .iload_n 1, 1, []),
  (2, .ishr, 1, []),
  (3, .iconst 1, 1, []),
  (4, .iand, 1, []),
  (5, .iconst 1, 1, []),
  (6, .if_icmp .ne 7, 3, [13]),
  (9, .iconst 1, 1, []),
  (10, .goto 4, 3, [14]),
  (13, .iconst 0, 1, []),
  (14, .ireturn, 1, [1])]
def mr148 (S : Nat → mv_Sp) (P : mv_Post) : mv_Kt := mv_R mv_DF mk148 S (0, 0) P
theorem e148_0 : mr148 S P 0 L st sh M c s = (q_isI (q_gv L 0) ∧ mr148 S P 1 L (q_gv L 0 :: st) sh M c s) := (propext (mv_R_iff (i := .iload_n 0) (len := 1) (ax := []) (by decide +kernel))).trans (q_ldI_eq (K := fun st => mr148 S P 1 L st sh M c s))
theorem e148_1 : mr148 S P 1 L st sh M c s = (q_isI (q_gv L 1) ∧ mr148 S P 2 L (q_gv L 1 :: st) sh M c s) := (propext (mv_R_iff (i := .iload_n 1) (len := 1) (ax := []) (by decide +kernel))).trans (q_ldI_eq (K := fun st => mr148 S P 2 L st sh M c s))
theorem e148_2 {y : Int32} {x : Int32} : mr148 S P 2 L (.int y :: .int x :: st) sh M c s = (mr148 S P 3 L (.int (x >>> (y &&& 31)) :: st) sh M c s) := propext (mv_R_iff (i := .ishr) (len := 1) (ax := []) (by decide +kernel))
theorem e148_3 : mr148 S P 3 L st sh M c s = (mr148 S P 4 L (.int (nI 1) :: st) sh M c s) := propext (mv_R_iff (i := .iconst 1) (len := 1) (ax := []) (by decide +kernel))
theorem e148_4 {y : Int32} {x : Int32} : mr148 S P 4 L (.int y :: .int x :: st) sh M c s = (mr148 S P 5 L (.int (x &&& y) :: st) sh M c s) := propext (mv_R_iff (i := .iand) (len := 1) (ax := []) (by decide +kernel))
theorem e148_5 : mr148 S P 5 L st sh M c s = (mr148 S P 6 L (.int (nI 1) :: st) sh M c s) := propext (mv_R_iff (i := .iconst 1) (len := 1) (ax := []) (by decide +kernel))
theorem e148_6 {y : Int32} {x : Int32} : mr148 S P 6 L (.int y :: .int x :: st) sh M c s = (if x = y then mr148 S P 9 L st sh M c s else mr148 S P 13 L st sh M c s) := (propext (mv_R_iff (i := .if_icmp .ne 7) (len := 3) (ax := [13]) (by decide +kernel))).trans (q_br')
theorem e148_9 : mr148 S P 9 L st sh M c s = (mr148 S P 10 L (.int (nI 1) :: st) sh M c s) := propext (mv_R_iff (i := .iconst 1) (len := 1) (ax := []) (by decide +kernel))
theorem e148_10 : mr148 S P 10 L st sh M c s = (mr148 S P 14 L st sh M c s) := propext (mv_R_iff (i := .goto 4) (len := 3) (ax := [14]) (by decide +kernel))
theorem e148_13 : mr148 S P 13 L st sh M c s = (mr148 S P 14 L (.int (nI 0) :: st) sh M c s) := propext (mv_R_iff (i := .iconst 0) (len := 1) (ax := []) (by decide +kernel))
theorem e148_14 {x : Int32} : mr148 S P 14 L [.int x] sh M c s = (mv_nr 1 x ∧ P (some (.int x)) sh M) := propext (mv_R_iff (i := .ireturn) (len := 1) (ax := [1]) (by decide +kernel))
-- 149: TurnedTabletsModel.readsPack()Z
def mk149 : mv_Cd := [
  (0, .aload_n 0, 1, []),
  (1, .getfield 121, 3, [1048, 0, 5, 23]),
  (4, .bipush 6, 2, []),
  (6, .if_icmp .ne 5, 3, [11]),
  (9, .iconst 0, 1, []),
  (10, .ireturn, 1, [1]),
  (11, .iconst 0, 1, []),
  (12, .istore_n 1, 1, []),
  (13, .aload_n 0, 1, []),
  (14, .invokevirtual 106, 3, [0, 145, 1, 5, 0, 0, 0, 1001, 1003, 75, 119, 1004]),
  (17, .ifCond .eq 53, 3, [70]),
  (20, .aload_n 0, 1, []),
  (21, .getfield 28, 3, [1037, 0, 5, 12]),
  (24, .aload_n 0, 1, []),
  (25, .getfield 96, 3, [1042, 0, 5, 17]),
  (28, .iaload, 1, []),
  (29, .bipush 48, 2, []),
  (31, .isub, 1, []),
  (32, .istore_n 2, 1, []),
  (33, .iload_n 2, 1, []),
  (34, .aload_n 0, 1, []),
  (35, .getfield 110, 3, [1044, 0, 5, 19]),
  (38, .if_icmp .ge 11, 3, [49]),
  (41, .iload_n 1, 1, []),
  (42, .iload_n 2, 1, []),
  (43, .invokestatic 124, 3, [3, 148, 2, 0, 0, 0, 0, 1014, 1015, 119, 1016]),
  (46, .ifCond .eq 5, 3, [51]),
  (49, .iconst 0, 1, []),
  (50, .ireturn, 1, [1]),
  (51, .iload_n 1, 1, []),
  (52, .iconst 1, 1, []),
  (53, .iload_n 2, 1, []),
  (54, .ishl, 1, []),
  (55, .ior, 1, []),
  (56, .istore_n 1, 1, []),
  (57, .aload_n 0, 1, []),
  (58, .dup, 1, []),
  (59, .getfield 96, 3, [1042, 0, 5, 17]),
  (62, .iconst 1, 1, []),
  (63, .iadd, 1, []),
  (64, .putfield 96, 3, [1042, 0, 5, 17, 0]),
  (67, .goto (-54), 3, [13]),
  (70, .aload_n 0, 1, []),
  (71, .getfield 46, 3, [1049, 0, 5, 24]),
  (74, .aload_n 0, 1, []),
  (75, .getfield 121, 3, [1048, 0, 5, 23]),
  (78, .iload_n 1, 1, []),
  (79, .iastore, 1, []),
  (80, .aload_n 0, 1, []),
  (81, .dup, 1, []),
  (82, .getfield 121, 3, [1048, 0, 5, 23]),
  (85, .iconst 1, 1, []),
  (86, .iadd, 1, []),
  (87, .putfield 121, 3, [1048, 0, 5, 23, 0]),
  (90, .iload_n 1, 1, []),
  (91, .ifCond .eq 7, 3, [98]),
  (94, .iconst 1, 1, []),
  (95, .goto 4, 3, [99]),
  (98, .iconst 0, 1, []),
  (99, .ireturn, 1, [1])]
def mr149 (S : Nat → mv_Sp) (P : mv_Post) : mv_Kt := mv_R mv_DF mk149 S (0, 0) P
theorem e149_0 : mr149 S P 0 L st sh M c s = (q_isA (q_gv L 0) ∧ mr149 S P 1 L (q_gv L 0 :: st) sh M c s) := (propext (mv_R_iff (i := .aload_n 0) (len := 1) (ax := []) (by decide +kernel))).trans (q_ldA_eq (K := fun st => mr149 S P 1 L st sh M c s))
theorem e149_1 {a : Nat} : mr149 S P 1 L (.ref a :: st) sh M c s = (mv_kgf sh M a 5 23 (mr149 S P) 4 L st c s) := propext (mv_R_iff (i := .getfield 121) (len := 3) (ax := [1048, 0, 5, 23]) (by decide +kernel))
theorem e149_4 : mr149 S P 4 L st sh M c s = (mr149 S P 6 L (.int (nI 6) :: st) sh M c s) := propext (mv_R_iff (i := .bipush 6) (len := 2) (ax := []) (by decide +kernel))
theorem e149_6 {y : Int32} {x : Int32} : mr149 S P 6 L (.int y :: .int x :: st) sh M c s = (if x = y then mr149 S P 9 L st sh M c s else mr149 S P 11 L st sh M c s) := (propext (mv_R_iff (i := .if_icmp .ne 5) (len := 3) (ax := [11]) (by decide +kernel))).trans (q_br')
theorem e149_9 : mr149 S P 9 L st sh M c s = (mr149 S P 10 L (.int (nI 0) :: st) sh M c s) := propext (mv_R_iff (i := .iconst 0) (len := 1) (ax := []) (by decide +kernel))
theorem e149_10 {x : Int32} : mr149 S P 10 L [.int x] sh M c s = (mv_nr 1 x ∧ P (some (.int x)) sh M) := propext (mv_R_iff (i := .ireturn) (len := 1) (ax := [1]) (by decide +kernel))
theorem e149_11 : mr149 S P 11 L st sh M c s = (mr149 S P 12 L (.int (nI 0) :: st) sh M c s) := propext (mv_R_iff (i := .iconst 0) (len := 1) (ax := []) (by decide +kernel))
theorem e149_12 {x : Int32} : mr149 S P 12 L (.int x :: st) sh M c s = (q_hs L 1 ∧ mr149 S P 13 (L.set 1 (some (.int x))) st sh M c s) := (propext (mv_R_iff (i := .istore_n 1) (len := 1) (ax := []) (by decide +kernel))).trans (q_st_eq (K := fun L => mr149 S P 13 L st sh M c s))
theorem e149_13 : mr149 S P 13 L st sh M c s = (q_isA (q_gv L 0) ∧ mr149 S P 14 L (q_gv L 0 :: st) sh M c s) := (propext (mv_R_iff (i := .aload_n 0) (len := 1) (ax := []) (by decide +kernel))).trans (q_ldA_eq (K := fun st => mr149 S P 14 L st sh M c s))
theorem e149_14 {v1 : Value} : mr149 S P 14 L (v1 :: st) sh M c s = (mv_ss st ≤ 8 ∧ c ≤ 0 ∧ s ≤ 0 ∧ mv_isO sh (some v1) 5 ∧ mv_kal S 145 [v1] sh M (mr149 S P) 17 L st c s) := (propext (mv_R_iff (i := .invokevirtual 106) (len := 3) (ax := [0, 145, 1, 5, 0, 0, 0, 1001, 1003, 75, 119, 1004]) (by decide +kernel))).trans (q_call0)
theorem e149_17 {x : Int32} : mr149 S P 17 L (.int x :: st) sh M c s = (if x = nI 0 then mr149 S P 70 L st sh M c s else mr149 S P 20 L st sh M c s) := (propext (mv_R_iff (i := .ifCond .eq 53) (len := 3) (ax := [70]) (by decide +kernel))).trans (q_br)
theorem e149_20 : mr149 S P 20 L st sh M c s = (q_isA (q_gv L 0) ∧ mr149 S P 21 L (q_gv L 0 :: st) sh M c s) := (propext (mv_R_iff (i := .aload_n 0) (len := 1) (ax := []) (by decide +kernel))).trans (q_ldA_eq (K := fun st => mr149 S P 21 L st sh M c s))
theorem e149_21 {a : Nat} : mr149 S P 21 L (.ref a :: st) sh M c s = (mv_kgf sh M a 5 12 (mr149 S P) 24 L st c s) := propext (mv_R_iff (i := .getfield 28) (len := 3) (ax := [1037, 0, 5, 12]) (by decide +kernel))
theorem e149_24 : mr149 S P 24 L st sh M c s = (q_isA (q_gv L 0) ∧ mr149 S P 25 L (q_gv L 0 :: st) sh M c s) := (propext (mv_R_iff (i := .aload_n 0) (len := 1) (ax := []) (by decide +kernel))).trans (q_ldA_eq (K := fun st => mr149 S P 25 L st sh M c s))
theorem e149_25 {a : Nat} : mr149 S P 25 L (.ref a :: st) sh M c s = (mv_kgf sh M a 5 17 (mr149 S P) 28 L st c s) := propext (mv_R_iff (i := .getfield 96) (len := 3) (ax := [1042, 0, 5, 17]) (by decide +kernel))
theorem e149_28 {i : Int32} {a : Nat} : mr149 S P 28 L (.int i :: .ref a :: st) sh M c s = (mv_kld sh M a i (mr149 S P) 29 L st c s) := propext (mv_R_iff (i := .iaload) (len := 1) (ax := []) (by decide +kernel))
theorem e149_29 : mr149 S P 29 L st sh M c s = (mr149 S P 31 L (.int (nI 48) :: st) sh M c s) := propext (mv_R_iff (i := .bipush 48) (len := 2) (ax := []) (by decide +kernel))
theorem e149_31 {y : Int32} {x : Int32} : mr149 S P 31 L (.int y :: .int x :: st) sh M c s = (mr149 S P 32 L (.int (x - y) :: st) sh M c s) := propext (mv_R_iff (i := .isub) (len := 1) (ax := []) (by decide +kernel))
theorem e149_32 {x : Int32} : mr149 S P 32 L (.int x :: st) sh M c s = (q_hs L 2 ∧ mr149 S P 33 (L.set 2 (some (.int x))) st sh M c s) := (propext (mv_R_iff (i := .istore_n 2) (len := 1) (ax := []) (by decide +kernel))).trans (q_st_eq (K := fun L => mr149 S P 33 L st sh M c s))
theorem e149_33 : mr149 S P 33 L st sh M c s = (q_isI (q_gv L 2) ∧ mr149 S P 34 L (q_gv L 2 :: st) sh M c s) := (propext (mv_R_iff (i := .iload_n 2) (len := 1) (ax := []) (by decide +kernel))).trans (q_ldI_eq (K := fun st => mr149 S P 34 L st sh M c s))
theorem e149_34 : mr149 S P 34 L st sh M c s = (q_isA (q_gv L 0) ∧ mr149 S P 35 L (q_gv L 0 :: st) sh M c s) := (propext (mv_R_iff (i := .aload_n 0) (len := 1) (ax := []) (by decide +kernel))).trans (q_ldA_eq (K := fun st => mr149 S P 35 L st sh M c s))
theorem e149_35 {a : Nat} : mr149 S P 35 L (.ref a :: st) sh M c s = (mv_kgf sh M a 5 19 (mr149 S P) 38 L st c s) := propext (mv_R_iff (i := .getfield 110) (len := 3) (ax := [1044, 0, 5, 19]) (by decide +kernel))
theorem e149_38 {y : Int32} {x : Int32} : mr149 S P 38 L (.int y :: .int x :: st) sh M c s = (if y ≤ x then mr149 S P 49 L st sh M c s else mr149 S P 41 L st sh M c s) := (propext (mv_R_iff (i := .if_icmp .ge 11) (len := 3) (ax := [49]) (by decide +kernel))).trans (q_br)
theorem e149_41 : mr149 S P 41 L st sh M c s = (q_isI (q_gv L 1) ∧ mr149 S P 42 L (q_gv L 1 :: st) sh M c s) := (propext (mv_R_iff (i := .iload_n 1) (len := 1) (ax := []) (by decide +kernel))).trans (q_ldI_eq (K := fun st => mr149 S P 42 L st sh M c s))
theorem e149_42 : mr149 S P 42 L st sh M c s = (q_isI (q_gv L 2) ∧ mr149 S P 43 L (q_gv L 2 :: st) sh M c s) := (propext (mv_R_iff (i := .iload_n 2) (len := 1) (ax := []) (by decide +kernel))).trans (q_ldI_eq (K := fun st => mr149 S P 43 L st sh M c s))
theorem e149_43 {v2 : Value} {v1 : Value} : mr149 S P 43 L (v2 :: v1 :: st) sh M c s = (mv_ss st ≤ 8 ∧ c ≤ 0 ∧ s ≤ 0 ∧ True ∧ mv_kal S 148 [v1, v2] sh M (mr149 S P) 46 L st c s) := (propext (mv_R_iff (i := .invokestatic 124) (len := 3) (ax := [3, 148, 2, 0, 0, 0, 0, 1014, 1015, 119, 1016]) (by decide +kernel))).trans (q_call3)
theorem e149_46 {x : Int32} : mr149 S P 46 L (.int x :: st) sh M c s = (if x = nI 0 then mr149 S P 51 L st sh M c s else mr149 S P 49 L st sh M c s) := (propext (mv_R_iff (i := .ifCond .eq 5) (len := 3) (ax := [51]) (by decide +kernel))).trans (q_br)
theorem e149_49 : mr149 S P 49 L st sh M c s = (mr149 S P 50 L (.int (nI 0) :: st) sh M c s) := propext (mv_R_iff (i := .iconst 0) (len := 1) (ax := []) (by decide +kernel))
theorem e149_50 {x : Int32} : mr149 S P 50 L [.int x] sh M c s = (mv_nr 1 x ∧ P (some (.int x)) sh M) := propext (mv_R_iff (i := .ireturn) (len := 1) (ax := [1]) (by decide +kernel))
theorem e149_51 : mr149 S P 51 L st sh M c s = (q_isI (q_gv L 1) ∧ mr149 S P 52 L (q_gv L 1 :: st) sh M c s) := (propext (mv_R_iff (i := .iload_n 1) (len := 1) (ax := []) (by decide +kernel))).trans (q_ldI_eq (K := fun st => mr149 S P 52 L st sh M c s))
theorem e149_52 : mr149 S P 52 L st sh M c s = (mr149 S P 53 L (.int (nI 1) :: st) sh M c s) := propext (mv_R_iff (i := .iconst 1) (len := 1) (ax := []) (by decide +kernel))
theorem e149_53 : mr149 S P 53 L st sh M c s = (q_isI (q_gv L 2) ∧ mr149 S P 54 L (q_gv L 2 :: st) sh M c s) := (propext (mv_R_iff (i := .iload_n 2) (len := 1) (ax := []) (by decide +kernel))).trans (q_ldI_eq (K := fun st => mr149 S P 54 L st sh M c s))
theorem e149_54 {y : Int32} {x : Int32} : mr149 S P 54 L (.int y :: .int x :: st) sh M c s = (mr149 S P 55 L (.int (x <<< (y &&& 31)) :: st) sh M c s) := propext (mv_R_iff (i := .ishl) (len := 1) (ax := []) (by decide +kernel))
theorem e149_55 {y : Int32} {x : Int32} : mr149 S P 55 L (.int y :: .int x :: st) sh M c s = (mr149 S P 56 L (.int (x ||| y) :: st) sh M c s) := propext (mv_R_iff (i := .ior) (len := 1) (ax := []) (by decide +kernel))
theorem e149_56 {x : Int32} : mr149 S P 56 L (.int x :: st) sh M c s = (q_hs L 1 ∧ mr149 S P 57 (L.set 1 (some (.int x))) st sh M c s) := (propext (mv_R_iff (i := .istore_n 1) (len := 1) (ax := []) (by decide +kernel))).trans (q_st_eq (K := fun L => mr149 S P 57 L st sh M c s))
theorem e149_57 : mr149 S P 57 L st sh M c s = (q_isA (q_gv L 0) ∧ mr149 S P 58 L (q_gv L 0 :: st) sh M c s) := (propext (mv_R_iff (i := .aload_n 0) (len := 1) (ax := []) (by decide +kernel))).trans (q_ldA_eq (K := fun st => mr149 S P 58 L st sh M c s))
theorem e149_58 {x : Int32} : mr149 S P 58 L (.int x :: st) sh M c s = (mr149 S P 59 L (.int x :: .int x :: st) sh M c s) := propext (mv_R_iff (i := .dup) (len := 1) (ax := []) (by decide +kernel))
theorem e149_58r {x : Nat} : mr149 S P 58 L (.ref x :: st) sh M c s = (mr149 S P 59 L (.ref x :: .ref x :: st) sh M c s) := propext (mv_R_iff (i := .dup) (len := 1) (ax := []) (by decide +kernel))
theorem e149_59 {a : Nat} : mr149 S P 59 L (.ref a :: st) sh M c s = (mv_kgf sh M a 5 17 (mr149 S P) 62 L st c s) := propext (mv_R_iff (i := .getfield 96) (len := 3) (ax := [1042, 0, 5, 17]) (by decide +kernel))
theorem e149_62 : mr149 S P 62 L st sh M c s = (mr149 S P 63 L (.int (nI 1) :: st) sh M c s) := propext (mv_R_iff (i := .iconst 1) (len := 1) (ax := []) (by decide +kernel))
theorem e149_63 {y : Int32} {x : Int32} : mr149 S P 63 L (.int y :: .int x :: st) sh M c s = (mr149 S P 64 L (.int (x + y) :: st) sh M c s) := propext (mv_R_iff (i := .iadd) (len := 1) (ax := []) (by decide +kernel))
theorem e149_64 {x : Int32} {a : Nat} : mr149 S P 64 L (.int x :: .ref a :: st) sh M c s = (True ∧ mv_kpf sh M a 5 17 x (mr149 S P) 67 L st c s) := propext (mv_R_iff (i := .putfield 96) (len := 3) (ax := [1042, 0, 5, 17, 0]) (by decide +kernel))
theorem e149_67 : mr149 S P 67 L st sh M c s = (mr149 S P 13 L st sh M c s) := propext (mv_R_iff (i := .goto (-54)) (len := 3) (ax := [13]) (by decide +kernel))
theorem e149_70 : mr149 S P 70 L st sh M c s = (q_isA (q_gv L 0) ∧ mr149 S P 71 L (q_gv L 0 :: st) sh M c s) := (propext (mv_R_iff (i := .aload_n 0) (len := 1) (ax := []) (by decide +kernel))).trans (q_ldA_eq (K := fun st => mr149 S P 71 L st sh M c s))
theorem e149_71 {a : Nat} : mr149 S P 71 L (.ref a :: st) sh M c s = (mv_kgf sh M a 5 24 (mr149 S P) 74 L st c s) := propext (mv_R_iff (i := .getfield 46) (len := 3) (ax := [1049, 0, 5, 24]) (by decide +kernel))
theorem e149_74 : mr149 S P 74 L st sh M c s = (q_isA (q_gv L 0) ∧ mr149 S P 75 L (q_gv L 0 :: st) sh M c s) := (propext (mv_R_iff (i := .aload_n 0) (len := 1) (ax := []) (by decide +kernel))).trans (q_ldA_eq (K := fun st => mr149 S P 75 L st sh M c s))
theorem e149_75 {a : Nat} : mr149 S P 75 L (.ref a :: st) sh M c s = (mv_kgf sh M a 5 23 (mr149 S P) 78 L st c s) := propext (mv_R_iff (i := .getfield 121) (len := 3) (ax := [1048, 0, 5, 23]) (by decide +kernel))
theorem e149_78 : mr149 S P 78 L st sh M c s = (q_isI (q_gv L 1) ∧ mr149 S P 79 L (q_gv L 1 :: st) sh M c s) := (propext (mv_R_iff (i := .iload_n 1) (len := 1) (ax := []) (by decide +kernel))).trans (q_ldI_eq (K := fun st => mr149 S P 79 L st sh M c s))
theorem e149_79 {x : Int32} {i : Int32} {a : Nat} : mr149 S P 79 L (.int x :: .int i :: .ref a :: st) sh M c s = (mv_kst sh M a i x (mr149 S P) 80 L st c s) := propext (mv_R_iff (i := .iastore) (len := 1) (ax := []) (by decide +kernel))
theorem e149_80 : mr149 S P 80 L st sh M c s = (q_isA (q_gv L 0) ∧ mr149 S P 81 L (q_gv L 0 :: st) sh M c s) := (propext (mv_R_iff (i := .aload_n 0) (len := 1) (ax := []) (by decide +kernel))).trans (q_ldA_eq (K := fun st => mr149 S P 81 L st sh M c s))
theorem e149_81 {x : Int32} : mr149 S P 81 L (.int x :: st) sh M c s = (mr149 S P 82 L (.int x :: .int x :: st) sh M c s) := propext (mv_R_iff (i := .dup) (len := 1) (ax := []) (by decide +kernel))
theorem e149_81r {x : Nat} : mr149 S P 81 L (.ref x :: st) sh M c s = (mr149 S P 82 L (.ref x :: .ref x :: st) sh M c s) := propext (mv_R_iff (i := .dup) (len := 1) (ax := []) (by decide +kernel))
theorem e149_82 {a : Nat} : mr149 S P 82 L (.ref a :: st) sh M c s = (mv_kgf sh M a 5 23 (mr149 S P) 85 L st c s) := propext (mv_R_iff (i := .getfield 121) (len := 3) (ax := [1048, 0, 5, 23]) (by decide +kernel))
theorem e149_85 : mr149 S P 85 L st sh M c s = (mr149 S P 86 L (.int (nI 1) :: st) sh M c s) := propext (mv_R_iff (i := .iconst 1) (len := 1) (ax := []) (by decide +kernel))
theorem e149_86 {y : Int32} {x : Int32} : mr149 S P 86 L (.int y :: .int x :: st) sh M c s = (mr149 S P 87 L (.int (x + y) :: st) sh M c s) := propext (mv_R_iff (i := .iadd) (len := 1) (ax := []) (by decide +kernel))
theorem e149_87 {x : Int32} {a : Nat} : mr149 S P 87 L (.int x :: .ref a :: st) sh M c s = (True ∧ mv_kpf sh M a 5 23 x (mr149 S P) 90 L st c s) := propext (mv_R_iff (i := .putfield 121) (len := 3) (ax := [1048, 0, 5, 23, 0]) (by decide +kernel))
theorem e149_90 : mr149 S P 90 L st sh M c s = (q_isI (q_gv L 1) ∧ mr149 S P 91 L (q_gv L 1 :: st) sh M c s) := (propext (mv_R_iff (i := .iload_n 1) (len := 1) (ax := []) (by decide +kernel))).trans (q_ldI_eq (K := fun st => mr149 S P 91 L st sh M c s))
theorem e149_91 {x : Int32} : mr149 S P 91 L (.int x :: st) sh M c s = (if x = nI 0 then mr149 S P 98 L st sh M c s else mr149 S P 94 L st sh M c s) := (propext (mv_R_iff (i := .ifCond .eq 7) (len := 3) (ax := [98]) (by decide +kernel))).trans (q_br)
theorem e149_94 : mr149 S P 94 L st sh M c s = (mr149 S P 95 L (.int (nI 1) :: st) sh M c s) := propext (mv_R_iff (i := .iconst 1) (len := 1) (ax := []) (by decide +kernel))
theorem e149_95 : mr149 S P 95 L st sh M c s = (mr149 S P 99 L st sh M c s) := propext (mv_R_iff (i := .goto 4) (len := 3) (ax := [99]) (by decide +kernel))
theorem e149_98 : mr149 S P 98 L st sh M c s = (mr149 S P 99 L (.int (nI 0) :: st) sh M c s) := propext (mv_R_iff (i := .iconst 0) (len := 1) (ax := []) (by decide +kernel))
theorem e149_99 {x : Int32} : mr149 S P 99 L [.int x] sh M c s = (mv_nr 1 x ∧ P (some (.int x)) sh M) := propext (mv_R_iff (i := .ireturn) (len := 1) (ax := [1]) (by decide +kernel))
-- 150: TurnedTabletsModel.readsMost()Z
def mk150 : mv_Cd := [
  (0, .aload_n 0, 1, []),
  (1, .iconst 1, 1, []),
  (2, .bipush 40, 2, []),
  (4, .invokevirtual 113, 3, [0, 146, 3, 5, 0, 0, 0, 997, 999, 74, 119, 1000]),
  (7, .istore_n 1, 1, []),
  (8, .aload_n 0, 1, []),
  (9, .aload_n 0, 1, []),
  (10, .getfield 103, 3, [1043, 0, 5, 18]),
  (13, .putfield 127, 3, [1050, 0, 5, 25, 0]),
  (16, .iload_n 1, 1, []),
  (17, .ireturn, 1, [1])]
def mr150 (S : Nat → mv_Sp) (P : mv_Post) : mv_Kt := mv_R mv_DF mk150 S (0, 0) P
theorem e150_0 : mr150 S P 0 L st sh M c s = (q_isA (q_gv L 0) ∧ mr150 S P 1 L (q_gv L 0 :: st) sh M c s) := (propext (mv_R_iff (i := .aload_n 0) (len := 1) (ax := []) (by decide +kernel))).trans (q_ldA_eq (K := fun st => mr150 S P 1 L st sh M c s))
theorem e150_1 : mr150 S P 1 L st sh M c s = (mr150 S P 2 L (.int (nI 1) :: st) sh M c s) := propext (mv_R_iff (i := .iconst 1) (len := 1) (ax := []) (by decide +kernel))
theorem e150_2 : mr150 S P 2 L st sh M c s = (mr150 S P 4 L (.int (nI 40) :: st) sh M c s) := propext (mv_R_iff (i := .bipush 40) (len := 2) (ax := []) (by decide +kernel))
theorem e150_4 {v3 : Value} {v2 : Value} {v1 : Value} : mr150 S P 4 L (v3 :: v2 :: v1 :: st) sh M c s = (mv_ss st ≤ 8 ∧ c ≤ 0 ∧ s ≤ 0 ∧ mv_isO sh (some v1) 5 ∧ mv_kal S 146 [v1, v2, v3] sh M (mr150 S P) 7 L st c s) := (propext (mv_R_iff (i := .invokevirtual 113) (len := 3) (ax := [0, 146, 3, 5, 0, 0, 0, 997, 999, 74, 119, 1000]) (by decide +kernel))).trans (q_call0)
theorem e150_7 {x : Int32} : mr150 S P 7 L (.int x :: st) sh M c s = (q_hs L 1 ∧ mr150 S P 8 (L.set 1 (some (.int x))) st sh M c s) := (propext (mv_R_iff (i := .istore_n 1) (len := 1) (ax := []) (by decide +kernel))).trans (q_st_eq (K := fun L => mr150 S P 8 L st sh M c s))
theorem e150_8 : mr150 S P 8 L st sh M c s = (q_isA (q_gv L 0) ∧ mr150 S P 9 L (q_gv L 0 :: st) sh M c s) := (propext (mv_R_iff (i := .aload_n 0) (len := 1) (ax := []) (by decide +kernel))).trans (q_ldA_eq (K := fun st => mr150 S P 9 L st sh M c s))
theorem e150_9 : mr150 S P 9 L st sh M c s = (q_isA (q_gv L 0) ∧ mr150 S P 10 L (q_gv L 0 :: st) sh M c s) := (propext (mv_R_iff (i := .aload_n 0) (len := 1) (ax := []) (by decide +kernel))).trans (q_ldA_eq (K := fun st => mr150 S P 10 L st sh M c s))
theorem e150_10 {a : Nat} : mr150 S P 10 L (.ref a :: st) sh M c s = (mv_kgf sh M a 5 18 (mr150 S P) 13 L st c s) := propext (mv_R_iff (i := .getfield 103) (len := 3) (ax := [1043, 0, 5, 18]) (by decide +kernel))
theorem e150_13 {x : Int32} {a : Nat} : mr150 S P 13 L (.int x :: .ref a :: st) sh M c s = (True ∧ mv_kpf sh M a 5 25 x (mr150 S P) 16 L st c s) := propext (mv_R_iff (i := .putfield 127) (len := 3) (ax := [1050, 0, 5, 25, 0]) (by decide +kernel))
theorem e150_16 : mr150 S P 16 L st sh M c s = (q_isI (q_gv L 1) ∧ mr150 S P 17 L (q_gv L 1 :: st) sh M c s) := (propext (mv_R_iff (i := .iload_n 1) (len := 1) (ax := []) (by decide +kernel))).trans (q_ldI_eq (K := fun st => mr150 S P 17 L st sh M c s))
theorem e150_17 {x : Int32} : mr150 S P 17 L [.int x] sh M c s = (mv_nr 1 x ∧ P (some (.int x)) sh M) := propext (mv_R_iff (i := .ireturn) (len := 1) (ax := [1]) (by decide +kernel))
-- 151: TurnedTabletsModel.readsDraft()Z
def mk151 : mv_Cd := [
  (0, .aload_n 0, 1, []),
  (1, .iconst 0, 1, []),
  (2, .putfield 130, 3, [1051, 0, 5, 26, 0]),
  (5, .aload_n 0, 1, []),
  (6, .invokevirtual 106, 3, [0, 145, 1, 5, 0, 0, 0, 1001, 1003, 75, 119, 1004]),
  (9, .ifCond .eq 161, 3, [170]),
  (12, .aload_n 0, 1, []),
  (13, .getfield 28, 3, [1037, 0, 5, 12]),
  (16, .aload_n 0, 1, []),
  (17, .getfield 96, 3, [1042, 0, 5, 17]),
  (20, .iaload, 1, []),
  (21, .bipush 48, 2, []),
  (23, .isub, 1, []),
  (24, .istore_n 1, 1, []),
  (25, .aload_n 0, 1, []),
  (26, .dup, 1, []),
  (27, .getfield 96, 3, [1042, 0, 5, 17]),
  (30, .iconst 1, 1, []),
  (31, .iadd, 1, []),
  (32, .putfield 96, 3, [1042, 0, 5, 17, 0]),
  (35, .aload_n 0, 1, []),
  (36, .getfield 96, 3, [1042, 0, 5, 17]),
  (39, .aload_n 0, 1, []),
  (40, .getfield 80, 3, [1038, 0, 5, 13]),
  (43, .if_icmp .ge 21, 3, [64]),
  (46, .aload_n 0, 1, []),
  (47, .getfield 28, 3, [1037, 0, 5, 12]),
  (50, .aload_n 0, 1, []),
  (51, .getfield 96, 3, [1042, 0, 5, 17]),
  (54, .iaload, 1, []),
  (55, .bipush 102, 2, []),
  (57, .if_icmp .ne 7, 3, [64]),
  (60, .iconst 1, 1, []),
  (61, .goto 4, 3, [65]),
  (64, .iconst 0, 1, []),
  (65, .istore_n 2, 1, []),
  (66, .aload_n 0, 1, []),
  (67, .getfield 96, 3, [1042, 0, 5, 17]),
  (70, .aload_n 0, 1, []),
  (71, .getfield 80, 3, [1038, 0, 5, 13]),
  (74, .if_icmp .ge 21, 3, [95]),
  (77, .aload_n 0, 1, []),
  (78, .getfield 28, 3, [1037, 0, 5, 12]),
  (81, .aload_n 0, 1, []),
  (82, .getfield 96, 3, [1042, 0, 5, 17]),
  (85, .iaload, 1, []),
  (86, .bipush 98, 2, []),
  (88, .if_icmp .ne 7, 3, [95]),
  (91, .iconst 1, 1, []),
  (92, .goto 4, 3, [96]),
  (95, .iconst 0, 1, []),
  (96, .istore_n 3, 1, []),
  (97, .iload_n 1, 1, []),
  (98, .aload_n 0, 1, []),
  (99, .getfield 121, 3, [1048, 0, 5, 23]),
  (102, .if_icmp .ge 20, 3, [122]),
  (105, .iload_n 2, 1, []),
  (106, .ifCond .ne 7, 3, [113]),
  (109, .iload_n 3, 1, []),
  (110, .ifCond .eq 12, 3, [122]),
  (113, .aload_n 0, 1, []),
  (114, .getfield 130, 3, [1051, 0, 5, 26]),
  (117, .bipush 8, 2, []),
  (119, .if_icmp .ne 5, 3, [124]),
  (122, .iconst 0, 1, []),
  (123, .ireturn, 1, [1]),
  (124, .aload_n 0, 1, []),
  (125, .dup, 1, []),
  (126, .getfield 96, 3, [1042, 0, 5, 17]),
  (129, .iconst 1, 1, []),
  (130, .iadd, 1, []),
  (131, .putfield 96, 3, [1042, 0, 5, 17, 0]),
  (134, .aload_n 0, 1, []),
  (135, .getfield 49, 3, [1052, 0, 5, 27]),
  (138, .aload_n 0, 1, []),
  (139, .getfield 130, 3, [1051, 0, 5, 26]),
  (142, .bipush 10, 2, []),
  (144, .iload_n 1, 1, []),
  (145, .imul, 1, []),
  (146, .iload_n 3, 1, []),
  (147, .ifCond .eq 7, 3, [154]),
  (150, .iconst 1, 1, []),
  (151, .goto 4, 3, [155]),
  (154, .iconst 0, 1, []),
  (155, .iadd, 1, []),
  (156, .iastore, 1, []),
  (157, .aload_n 0, 1, []),
  (158, .dup, 1, []),
  (159, .getfield 130, 3, [1051, 0, 5, 26]),
  (162, .iconst 1, 1, []),
  (163, .iadd, 1, []),
  (164, .putfield 130, 3, [1051, 0, 5, 26, 0]),
  (167, .goto (-162), 3, [5]),
  (170, .aload_n 0, 1, []),
  (171, .getfield 130, 3, [1051, 0, 5, 26]),
  (174, .ifCond .le 7, 3, [181]),
  (177, .iconst 1, 1, []),
  (178, .goto 4, 3, [182]),
  (181, .iconst 0, 1, []),
  (182, .ireturn, 1, [1])]
def mr151 (S : Nat → mv_Sp) (P : mv_Post) : mv_Kt := mv_R mv_DF mk151 S (0, 0) P
theorem e151_0 : mr151 S P 0 L st sh M c s = (q_isA (q_gv L 0) ∧ mr151 S P 1 L (q_gv L 0 :: st) sh M c s) := (propext (mv_R_iff (i := .aload_n 0) (len := 1) (ax := []) (by decide +kernel))).trans (q_ldA_eq (K := fun st => mr151 S P 1 L st sh M c s))
theorem e151_1 : mr151 S P 1 L st sh M c s = (mr151 S P 2 L (.int (nI 0) :: st) sh M c s) := propext (mv_R_iff (i := .iconst 0) (len := 1) (ax := []) (by decide +kernel))
theorem e151_2 {x : Int32} {a : Nat} : mr151 S P 2 L (.int x :: .ref a :: st) sh M c s = (True ∧ mv_kpf sh M a 5 26 x (mr151 S P) 5 L st c s) := propext (mv_R_iff (i := .putfield 130) (len := 3) (ax := [1051, 0, 5, 26, 0]) (by decide +kernel))
theorem e151_5 : mr151 S P 5 L st sh M c s = (q_isA (q_gv L 0) ∧ mr151 S P 6 L (q_gv L 0 :: st) sh M c s) := (propext (mv_R_iff (i := .aload_n 0) (len := 1) (ax := []) (by decide +kernel))).trans (q_ldA_eq (K := fun st => mr151 S P 6 L st sh M c s))
theorem e151_6 {v1 : Value} : mr151 S P 6 L (v1 :: st) sh M c s = (mv_ss st ≤ 8 ∧ c ≤ 0 ∧ s ≤ 0 ∧ mv_isO sh (some v1) 5 ∧ mv_kal S 145 [v1] sh M (mr151 S P) 9 L st c s) := (propext (mv_R_iff (i := .invokevirtual 106) (len := 3) (ax := [0, 145, 1, 5, 0, 0, 0, 1001, 1003, 75, 119, 1004]) (by decide +kernel))).trans (q_call0)
theorem e151_9 {x : Int32} : mr151 S P 9 L (.int x :: st) sh M c s = (if x = nI 0 then mr151 S P 170 L st sh M c s else mr151 S P 12 L st sh M c s) := (propext (mv_R_iff (i := .ifCond .eq 161) (len := 3) (ax := [170]) (by decide +kernel))).trans (q_br)
theorem e151_12 : mr151 S P 12 L st sh M c s = (q_isA (q_gv L 0) ∧ mr151 S P 13 L (q_gv L 0 :: st) sh M c s) := (propext (mv_R_iff (i := .aload_n 0) (len := 1) (ax := []) (by decide +kernel))).trans (q_ldA_eq (K := fun st => mr151 S P 13 L st sh M c s))
theorem e151_13 {a : Nat} : mr151 S P 13 L (.ref a :: st) sh M c s = (mv_kgf sh M a 5 12 (mr151 S P) 16 L st c s) := propext (mv_R_iff (i := .getfield 28) (len := 3) (ax := [1037, 0, 5, 12]) (by decide +kernel))
theorem e151_16 : mr151 S P 16 L st sh M c s = (q_isA (q_gv L 0) ∧ mr151 S P 17 L (q_gv L 0 :: st) sh M c s) := (propext (mv_R_iff (i := .aload_n 0) (len := 1) (ax := []) (by decide +kernel))).trans (q_ldA_eq (K := fun st => mr151 S P 17 L st sh M c s))
theorem e151_17 {a : Nat} : mr151 S P 17 L (.ref a :: st) sh M c s = (mv_kgf sh M a 5 17 (mr151 S P) 20 L st c s) := propext (mv_R_iff (i := .getfield 96) (len := 3) (ax := [1042, 0, 5, 17]) (by decide +kernel))
theorem e151_20 {i : Int32} {a : Nat} : mr151 S P 20 L (.int i :: .ref a :: st) sh M c s = (mv_kld sh M a i (mr151 S P) 21 L st c s) := propext (mv_R_iff (i := .iaload) (len := 1) (ax := []) (by decide +kernel))
theorem e151_21 : mr151 S P 21 L st sh M c s = (mr151 S P 23 L (.int (nI 48) :: st) sh M c s) := propext (mv_R_iff (i := .bipush 48) (len := 2) (ax := []) (by decide +kernel))
theorem e151_23 {y : Int32} {x : Int32} : mr151 S P 23 L (.int y :: .int x :: st) sh M c s = (mr151 S P 24 L (.int (x - y) :: st) sh M c s) := propext (mv_R_iff (i := .isub) (len := 1) (ax := []) (by decide +kernel))
theorem e151_24 {x : Int32} : mr151 S P 24 L (.int x :: st) sh M c s = (q_hs L 1 ∧ mr151 S P 25 (L.set 1 (some (.int x))) st sh M c s) := (propext (mv_R_iff (i := .istore_n 1) (len := 1) (ax := []) (by decide +kernel))).trans (q_st_eq (K := fun L => mr151 S P 25 L st sh M c s))
theorem e151_25 : mr151 S P 25 L st sh M c s = (q_isA (q_gv L 0) ∧ mr151 S P 26 L (q_gv L 0 :: st) sh M c s) := (propext (mv_R_iff (i := .aload_n 0) (len := 1) (ax := []) (by decide +kernel))).trans (q_ldA_eq (K := fun st => mr151 S P 26 L st sh M c s))
theorem e151_26 {x : Int32} : mr151 S P 26 L (.int x :: st) sh M c s = (mr151 S P 27 L (.int x :: .int x :: st) sh M c s) := propext (mv_R_iff (i := .dup) (len := 1) (ax := []) (by decide +kernel))
theorem e151_26r {x : Nat} : mr151 S P 26 L (.ref x :: st) sh M c s = (mr151 S P 27 L (.ref x :: .ref x :: st) sh M c s) := propext (mv_R_iff (i := .dup) (len := 1) (ax := []) (by decide +kernel))
theorem e151_27 {a : Nat} : mr151 S P 27 L (.ref a :: st) sh M c s = (mv_kgf sh M a 5 17 (mr151 S P) 30 L st c s) := propext (mv_R_iff (i := .getfield 96) (len := 3) (ax := [1042, 0, 5, 17]) (by decide +kernel))
theorem e151_30 : mr151 S P 30 L st sh M c s = (mr151 S P 31 L (.int (nI 1) :: st) sh M c s) := propext (mv_R_iff (i := .iconst 1) (len := 1) (ax := []) (by decide +kernel))
theorem e151_31 {y : Int32} {x : Int32} : mr151 S P 31 L (.int y :: .int x :: st) sh M c s = (mr151 S P 32 L (.int (x + y) :: st) sh M c s) := propext (mv_R_iff (i := .iadd) (len := 1) (ax := []) (by decide +kernel))
theorem e151_32 {x : Int32} {a : Nat} : mr151 S P 32 L (.int x :: .ref a :: st) sh M c s = (True ∧ mv_kpf sh M a 5 17 x (mr151 S P) 35 L st c s) := propext (mv_R_iff (i := .putfield 96) (len := 3) (ax := [1042, 0, 5, 17, 0]) (by decide +kernel))
theorem e151_35 : mr151 S P 35 L st sh M c s = (q_isA (q_gv L 0) ∧ mr151 S P 36 L (q_gv L 0 :: st) sh M c s) := (propext (mv_R_iff (i := .aload_n 0) (len := 1) (ax := []) (by decide +kernel))).trans (q_ldA_eq (K := fun st => mr151 S P 36 L st sh M c s))
theorem e151_36 {a : Nat} : mr151 S P 36 L (.ref a :: st) sh M c s = (mv_kgf sh M a 5 17 (mr151 S P) 39 L st c s) := propext (mv_R_iff (i := .getfield 96) (len := 3) (ax := [1042, 0, 5, 17]) (by decide +kernel))
theorem e151_39 : mr151 S P 39 L st sh M c s = (q_isA (q_gv L 0) ∧ mr151 S P 40 L (q_gv L 0 :: st) sh M c s) := (propext (mv_R_iff (i := .aload_n 0) (len := 1) (ax := []) (by decide +kernel))).trans (q_ldA_eq (K := fun st => mr151 S P 40 L st sh M c s))
theorem e151_40 {a : Nat} : mr151 S P 40 L (.ref a :: st) sh M c s = (mv_kgf sh M a 5 13 (mr151 S P) 43 L st c s) := propext (mv_R_iff (i := .getfield 80) (len := 3) (ax := [1038, 0, 5, 13]) (by decide +kernel))
theorem e151_43 {y : Int32} {x : Int32} : mr151 S P 43 L (.int y :: .int x :: st) sh M c s = (if y ≤ x then mr151 S P 64 L st sh M c s else mr151 S P 46 L st sh M c s) := (propext (mv_R_iff (i := .if_icmp .ge 21) (len := 3) (ax := [64]) (by decide +kernel))).trans (q_br)
theorem e151_46 : mr151 S P 46 L st sh M c s = (q_isA (q_gv L 0) ∧ mr151 S P 47 L (q_gv L 0 :: st) sh M c s) := (propext (mv_R_iff (i := .aload_n 0) (len := 1) (ax := []) (by decide +kernel))).trans (q_ldA_eq (K := fun st => mr151 S P 47 L st sh M c s))
theorem e151_47 {a : Nat} : mr151 S P 47 L (.ref a :: st) sh M c s = (mv_kgf sh M a 5 12 (mr151 S P) 50 L st c s) := propext (mv_R_iff (i := .getfield 28) (len := 3) (ax := [1037, 0, 5, 12]) (by decide +kernel))
theorem e151_50 : mr151 S P 50 L st sh M c s = (q_isA (q_gv L 0) ∧ mr151 S P 51 L (q_gv L 0 :: st) sh M c s) := (propext (mv_R_iff (i := .aload_n 0) (len := 1) (ax := []) (by decide +kernel))).trans (q_ldA_eq (K := fun st => mr151 S P 51 L st sh M c s))
theorem e151_51 {a : Nat} : mr151 S P 51 L (.ref a :: st) sh M c s = (mv_kgf sh M a 5 17 (mr151 S P) 54 L st c s) := propext (mv_R_iff (i := .getfield 96) (len := 3) (ax := [1042, 0, 5, 17]) (by decide +kernel))
theorem e151_54 {i : Int32} {a : Nat} : mr151 S P 54 L (.int i :: .ref a :: st) sh M c s = (mv_kld sh M a i (mr151 S P) 55 L st c s) := propext (mv_R_iff (i := .iaload) (len := 1) (ax := []) (by decide +kernel))
theorem e151_55 : mr151 S P 55 L st sh M c s = (mr151 S P 57 L (.int (nI 102) :: st) sh M c s) := propext (mv_R_iff (i := .bipush 102) (len := 2) (ax := []) (by decide +kernel))
theorem e151_57 {y : Int32} {x : Int32} : mr151 S P 57 L (.int y :: .int x :: st) sh M c s = (if x = y then mr151 S P 60 L st sh M c s else mr151 S P 64 L st sh M c s) := (propext (mv_R_iff (i := .if_icmp .ne 7) (len := 3) (ax := [64]) (by decide +kernel))).trans (q_br')
theorem e151_60 : mr151 S P 60 L st sh M c s = (mr151 S P 61 L (.int (nI 1) :: st) sh M c s) := propext (mv_R_iff (i := .iconst 1) (len := 1) (ax := []) (by decide +kernel))
theorem e151_61 : mr151 S P 61 L st sh M c s = (mr151 S P 65 L st sh M c s) := propext (mv_R_iff (i := .goto 4) (len := 3) (ax := [65]) (by decide +kernel))
theorem e151_64 : mr151 S P 64 L st sh M c s = (mr151 S P 65 L (.int (nI 0) :: st) sh M c s) := propext (mv_R_iff (i := .iconst 0) (len := 1) (ax := []) (by decide +kernel))
theorem e151_65 {x : Int32} : mr151 S P 65 L (.int x :: st) sh M c s = (q_hs L 2 ∧ mr151 S P 66 (L.set 2 (some (.int x))) st sh M c s) := (propext (mv_R_iff (i := .istore_n 2) (len := 1) (ax := []) (by decide +kernel))).trans (q_st_eq (K := fun L => mr151 S P 66 L st sh M c s))
theorem e151_66 : mr151 S P 66 L st sh M c s = (q_isA (q_gv L 0) ∧ mr151 S P 67 L (q_gv L 0 :: st) sh M c s) := (propext (mv_R_iff (i := .aload_n 0) (len := 1) (ax := []) (by decide +kernel))).trans (q_ldA_eq (K := fun st => mr151 S P 67 L st sh M c s))
theorem e151_67 {a : Nat} : mr151 S P 67 L (.ref a :: st) sh M c s = (mv_kgf sh M a 5 17 (mr151 S P) 70 L st c s) := propext (mv_R_iff (i := .getfield 96) (len := 3) (ax := [1042, 0, 5, 17]) (by decide +kernel))
theorem e151_70 : mr151 S P 70 L st sh M c s = (q_isA (q_gv L 0) ∧ mr151 S P 71 L (q_gv L 0 :: st) sh M c s) := (propext (mv_R_iff (i := .aload_n 0) (len := 1) (ax := []) (by decide +kernel))).trans (q_ldA_eq (K := fun st => mr151 S P 71 L st sh M c s))
theorem e151_71 {a : Nat} : mr151 S P 71 L (.ref a :: st) sh M c s = (mv_kgf sh M a 5 13 (mr151 S P) 74 L st c s) := propext (mv_R_iff (i := .getfield 80) (len := 3) (ax := [1038, 0, 5, 13]) (by decide +kernel))
theorem e151_74 {y : Int32} {x : Int32} : mr151 S P 74 L (.int y :: .int x :: st) sh M c s = (if y ≤ x then mr151 S P 95 L st sh M c s else mr151 S P 77 L st sh M c s) := (propext (mv_R_iff (i := .if_icmp .ge 21) (len := 3) (ax := [95]) (by decide +kernel))).trans (q_br)
theorem e151_77 : mr151 S P 77 L st sh M c s = (q_isA (q_gv L 0) ∧ mr151 S P 78 L (q_gv L 0 :: st) sh M c s) := (propext (mv_R_iff (i := .aload_n 0) (len := 1) (ax := []) (by decide +kernel))).trans (q_ldA_eq (K := fun st => mr151 S P 78 L st sh M c s))
theorem e151_78 {a : Nat} : mr151 S P 78 L (.ref a :: st) sh M c s = (mv_kgf sh M a 5 12 (mr151 S P) 81 L st c s) := propext (mv_R_iff (i := .getfield 28) (len := 3) (ax := [1037, 0, 5, 12]) (by decide +kernel))
theorem e151_81 : mr151 S P 81 L st sh M c s = (q_isA (q_gv L 0) ∧ mr151 S P 82 L (q_gv L 0 :: st) sh M c s) := (propext (mv_R_iff (i := .aload_n 0) (len := 1) (ax := []) (by decide +kernel))).trans (q_ldA_eq (K := fun st => mr151 S P 82 L st sh M c s))
theorem e151_82 {a : Nat} : mr151 S P 82 L (.ref a :: st) sh M c s = (mv_kgf sh M a 5 17 (mr151 S P) 85 L st c s) := propext (mv_R_iff (i := .getfield 96) (len := 3) (ax := [1042, 0, 5, 17]) (by decide +kernel))
theorem e151_85 {i : Int32} {a : Nat} : mr151 S P 85 L (.int i :: .ref a :: st) sh M c s = (mv_kld sh M a i (mr151 S P) 86 L st c s) := propext (mv_R_iff (i := .iaload) (len := 1) (ax := []) (by decide +kernel))
theorem e151_86 : mr151 S P 86 L st sh M c s = (mr151 S P 88 L (.int (nI 98) :: st) sh M c s) := propext (mv_R_iff (i := .bipush 98) (len := 2) (ax := []) (by decide +kernel))
theorem e151_88 {y : Int32} {x : Int32} : mr151 S P 88 L (.int y :: .int x :: st) sh M c s = (if x = y then mr151 S P 91 L st sh M c s else mr151 S P 95 L st sh M c s) := (propext (mv_R_iff (i := .if_icmp .ne 7) (len := 3) (ax := [95]) (by decide +kernel))).trans (q_br')
theorem e151_91 : mr151 S P 91 L st sh M c s = (mr151 S P 92 L (.int (nI 1) :: st) sh M c s) := propext (mv_R_iff (i := .iconst 1) (len := 1) (ax := []) (by decide +kernel))
theorem e151_92 : mr151 S P 92 L st sh M c s = (mr151 S P 96 L st sh M c s) := propext (mv_R_iff (i := .goto 4) (len := 3) (ax := [96]) (by decide +kernel))
theorem e151_95 : mr151 S P 95 L st sh M c s = (mr151 S P 96 L (.int (nI 0) :: st) sh M c s) := propext (mv_R_iff (i := .iconst 0) (len := 1) (ax := []) (by decide +kernel))
theorem e151_96 {x : Int32} : mr151 S P 96 L (.int x :: st) sh M c s = (q_hs L 3 ∧ mr151 S P 97 (L.set 3 (some (.int x))) st sh M c s) := (propext (mv_R_iff (i := .istore_n 3) (len := 1) (ax := []) (by decide +kernel))).trans (q_st_eq (K := fun L => mr151 S P 97 L st sh M c s))
theorem e151_97 : mr151 S P 97 L st sh M c s = (q_isI (q_gv L 1) ∧ mr151 S P 98 L (q_gv L 1 :: st) sh M c s) := (propext (mv_R_iff (i := .iload_n 1) (len := 1) (ax := []) (by decide +kernel))).trans (q_ldI_eq (K := fun st => mr151 S P 98 L st sh M c s))
theorem e151_98 : mr151 S P 98 L st sh M c s = (q_isA (q_gv L 0) ∧ mr151 S P 99 L (q_gv L 0 :: st) sh M c s) := (propext (mv_R_iff (i := .aload_n 0) (len := 1) (ax := []) (by decide +kernel))).trans (q_ldA_eq (K := fun st => mr151 S P 99 L st sh M c s))
theorem e151_99 {a : Nat} : mr151 S P 99 L (.ref a :: st) sh M c s = (mv_kgf sh M a 5 23 (mr151 S P) 102 L st c s) := propext (mv_R_iff (i := .getfield 121) (len := 3) (ax := [1048, 0, 5, 23]) (by decide +kernel))
theorem e151_102 {y : Int32} {x : Int32} : mr151 S P 102 L (.int y :: .int x :: st) sh M c s = (if y ≤ x then mr151 S P 122 L st sh M c s else mr151 S P 105 L st sh M c s) := (propext (mv_R_iff (i := .if_icmp .ge 20) (len := 3) (ax := [122]) (by decide +kernel))).trans (q_br)
theorem e151_105 : mr151 S P 105 L st sh M c s = (q_isI (q_gv L 2) ∧ mr151 S P 106 L (q_gv L 2 :: st) sh M c s) := (propext (mv_R_iff (i := .iload_n 2) (len := 1) (ax := []) (by decide +kernel))).trans (q_ldI_eq (K := fun st => mr151 S P 106 L st sh M c s))
theorem e151_106 {x : Int32} : mr151 S P 106 L (.int x :: st) sh M c s = (if x = nI 0 then mr151 S P 109 L st sh M c s else mr151 S P 113 L st sh M c s) := (propext (mv_R_iff (i := .ifCond .ne 7) (len := 3) (ax := [113]) (by decide +kernel))).trans (q_br')
theorem e151_109 : mr151 S P 109 L st sh M c s = (q_isI (q_gv L 3) ∧ mr151 S P 110 L (q_gv L 3 :: st) sh M c s) := (propext (mv_R_iff (i := .iload_n 3) (len := 1) (ax := []) (by decide +kernel))).trans (q_ldI_eq (K := fun st => mr151 S P 110 L st sh M c s))
theorem e151_110 {x : Int32} : mr151 S P 110 L (.int x :: st) sh M c s = (if x = nI 0 then mr151 S P 122 L st sh M c s else mr151 S P 113 L st sh M c s) := (propext (mv_R_iff (i := .ifCond .eq 12) (len := 3) (ax := [122]) (by decide +kernel))).trans (q_br)
theorem e151_113 : mr151 S P 113 L st sh M c s = (q_isA (q_gv L 0) ∧ mr151 S P 114 L (q_gv L 0 :: st) sh M c s) := (propext (mv_R_iff (i := .aload_n 0) (len := 1) (ax := []) (by decide +kernel))).trans (q_ldA_eq (K := fun st => mr151 S P 114 L st sh M c s))
theorem e151_114 {a : Nat} : mr151 S P 114 L (.ref a :: st) sh M c s = (mv_kgf sh M a 5 26 (mr151 S P) 117 L st c s) := propext (mv_R_iff (i := .getfield 130) (len := 3) (ax := [1051, 0, 5, 26]) (by decide +kernel))
theorem e151_117 : mr151 S P 117 L st sh M c s = (mr151 S P 119 L (.int (nI 8) :: st) sh M c s) := propext (mv_R_iff (i := .bipush 8) (len := 2) (ax := []) (by decide +kernel))
theorem e151_119 {y : Int32} {x : Int32} : mr151 S P 119 L (.int y :: .int x :: st) sh M c s = (if x = y then mr151 S P 122 L st sh M c s else mr151 S P 124 L st sh M c s) := (propext (mv_R_iff (i := .if_icmp .ne 5) (len := 3) (ax := [124]) (by decide +kernel))).trans (q_br')
theorem e151_122 : mr151 S P 122 L st sh M c s = (mr151 S P 123 L (.int (nI 0) :: st) sh M c s) := propext (mv_R_iff (i := .iconst 0) (len := 1) (ax := []) (by decide +kernel))
theorem e151_123 {x : Int32} : mr151 S P 123 L [.int x] sh M c s = (mv_nr 1 x ∧ P (some (.int x)) sh M) := propext (mv_R_iff (i := .ireturn) (len := 1) (ax := [1]) (by decide +kernel))
theorem e151_124 : mr151 S P 124 L st sh M c s = (q_isA (q_gv L 0) ∧ mr151 S P 125 L (q_gv L 0 :: st) sh M c s) := (propext (mv_R_iff (i := .aload_n 0) (len := 1) (ax := []) (by decide +kernel))).trans (q_ldA_eq (K := fun st => mr151 S P 125 L st sh M c s))
theorem e151_125 {x : Int32} : mr151 S P 125 L (.int x :: st) sh M c s = (mr151 S P 126 L (.int x :: .int x :: st) sh M c s) := propext (mv_R_iff (i := .dup) (len := 1) (ax := []) (by decide +kernel))
theorem e151_125r {x : Nat} : mr151 S P 125 L (.ref x :: st) sh M c s = (mr151 S P 126 L (.ref x :: .ref x :: st) sh M c s) := propext (mv_R_iff (i := .dup) (len := 1) (ax := []) (by decide +kernel))
theorem e151_126 {a : Nat} : mr151 S P 126 L (.ref a :: st) sh M c s = (mv_kgf sh M a 5 17 (mr151 S P) 129 L st c s) := propext (mv_R_iff (i := .getfield 96) (len := 3) (ax := [1042, 0, 5, 17]) (by decide +kernel))
theorem e151_129 : mr151 S P 129 L st sh M c s = (mr151 S P 130 L (.int (nI 1) :: st) sh M c s) := propext (mv_R_iff (i := .iconst 1) (len := 1) (ax := []) (by decide +kernel))
theorem e151_130 {y : Int32} {x : Int32} : mr151 S P 130 L (.int y :: .int x :: st) sh M c s = (mr151 S P 131 L (.int (x + y) :: st) sh M c s) := propext (mv_R_iff (i := .iadd) (len := 1) (ax := []) (by decide +kernel))
theorem e151_131 {x : Int32} {a : Nat} : mr151 S P 131 L (.int x :: .ref a :: st) sh M c s = (True ∧ mv_kpf sh M a 5 17 x (mr151 S P) 134 L st c s) := propext (mv_R_iff (i := .putfield 96) (len := 3) (ax := [1042, 0, 5, 17, 0]) (by decide +kernel))
theorem e151_134 : mr151 S P 134 L st sh M c s = (q_isA (q_gv L 0) ∧ mr151 S P 135 L (q_gv L 0 :: st) sh M c s) := (propext (mv_R_iff (i := .aload_n 0) (len := 1) (ax := []) (by decide +kernel))).trans (q_ldA_eq (K := fun st => mr151 S P 135 L st sh M c s))
theorem e151_135 {a : Nat} : mr151 S P 135 L (.ref a :: st) sh M c s = (mv_kgf sh M a 5 27 (mr151 S P) 138 L st c s) := propext (mv_R_iff (i := .getfield 49) (len := 3) (ax := [1052, 0, 5, 27]) (by decide +kernel))
theorem e151_138 : mr151 S P 138 L st sh M c s = (q_isA (q_gv L 0) ∧ mr151 S P 139 L (q_gv L 0 :: st) sh M c s) := (propext (mv_R_iff (i := .aload_n 0) (len := 1) (ax := []) (by decide +kernel))).trans (q_ldA_eq (K := fun st => mr151 S P 139 L st sh M c s))
theorem e151_139 {a : Nat} : mr151 S P 139 L (.ref a :: st) sh M c s = (mv_kgf sh M a 5 26 (mr151 S P) 142 L st c s) := propext (mv_R_iff (i := .getfield 130) (len := 3) (ax := [1051, 0, 5, 26]) (by decide +kernel))
theorem e151_142 : mr151 S P 142 L st sh M c s = (mr151 S P 144 L (.int (nI 10) :: st) sh M c s) := propext (mv_R_iff (i := .bipush 10) (len := 2) (ax := []) (by decide +kernel))
theorem e151_144 : mr151 S P 144 L st sh M c s = (q_isI (q_gv L 1) ∧ mr151 S P 145 L (q_gv L 1 :: st) sh M c s) := (propext (mv_R_iff (i := .iload_n 1) (len := 1) (ax := []) (by decide +kernel))).trans (q_ldI_eq (K := fun st => mr151 S P 145 L st sh M c s))
theorem e151_145 {y : Int32} {x : Int32} : mr151 S P 145 L (.int y :: .int x :: st) sh M c s = (mr151 S P 146 L (.int (x * y) :: st) sh M c s) := propext (mv_R_iff (i := .imul) (len := 1) (ax := []) (by decide +kernel))
theorem e151_146 : mr151 S P 146 L st sh M c s = (q_isI (q_gv L 3) ∧ mr151 S P 147 L (q_gv L 3 :: st) sh M c s) := (propext (mv_R_iff (i := .iload_n 3) (len := 1) (ax := []) (by decide +kernel))).trans (q_ldI_eq (K := fun st => mr151 S P 147 L st sh M c s))
theorem e151_147 {x : Int32} : mr151 S P 147 L (.int x :: st) sh M c s = (if x = nI 0 then mr151 S P 154 L st sh M c s else mr151 S P 150 L st sh M c s) := (propext (mv_R_iff (i := .ifCond .eq 7) (len := 3) (ax := [154]) (by decide +kernel))).trans (q_br)
theorem e151_150 : mr151 S P 150 L st sh M c s = (mr151 S P 151 L (.int (nI 1) :: st) sh M c s) := propext (mv_R_iff (i := .iconst 1) (len := 1) (ax := []) (by decide +kernel))
theorem e151_151 : mr151 S P 151 L st sh M c s = (mr151 S P 155 L st sh M c s) := propext (mv_R_iff (i := .goto 4) (len := 3) (ax := [155]) (by decide +kernel))
theorem e151_154 : mr151 S P 154 L st sh M c s = (mr151 S P 155 L (.int (nI 0) :: st) sh M c s) := propext (mv_R_iff (i := .iconst 0) (len := 1) (ax := []) (by decide +kernel))
theorem e151_155 {y : Int32} {x : Int32} : mr151 S P 155 L (.int y :: .int x :: st) sh M c s = (mr151 S P 156 L (.int (x + y) :: st) sh M c s) := propext (mv_R_iff (i := .iadd) (len := 1) (ax := []) (by decide +kernel))
theorem e151_156 {x : Int32} {i : Int32} {a : Nat} : mr151 S P 156 L (.int x :: .int i :: .ref a :: st) sh M c s = (mv_kst sh M a i x (mr151 S P) 157 L st c s) := propext (mv_R_iff (i := .iastore) (len := 1) (ax := []) (by decide +kernel))
theorem e151_157 : mr151 S P 157 L st sh M c s = (q_isA (q_gv L 0) ∧ mr151 S P 158 L (q_gv L 0 :: st) sh M c s) := (propext (mv_R_iff (i := .aload_n 0) (len := 1) (ax := []) (by decide +kernel))).trans (q_ldA_eq (K := fun st => mr151 S P 158 L st sh M c s))
theorem e151_158 {x : Int32} : mr151 S P 158 L (.int x :: st) sh M c s = (mr151 S P 159 L (.int x :: .int x :: st) sh M c s) := propext (mv_R_iff (i := .dup) (len := 1) (ax := []) (by decide +kernel))
theorem e151_158r {x : Nat} : mr151 S P 158 L (.ref x :: st) sh M c s = (mr151 S P 159 L (.ref x :: .ref x :: st) sh M c s) := propext (mv_R_iff (i := .dup) (len := 1) (ax := []) (by decide +kernel))
theorem e151_159 {a : Nat} : mr151 S P 159 L (.ref a :: st) sh M c s = (mv_kgf sh M a 5 26 (mr151 S P) 162 L st c s) := propext (mv_R_iff (i := .getfield 130) (len := 3) (ax := [1051, 0, 5, 26]) (by decide +kernel))
theorem e151_162 : mr151 S P 162 L st sh M c s = (mr151 S P 163 L (.int (nI 1) :: st) sh M c s) := propext (mv_R_iff (i := .iconst 1) (len := 1) (ax := []) (by decide +kernel))
theorem e151_163 {y : Int32} {x : Int32} : mr151 S P 163 L (.int y :: .int x :: st) sh M c s = (mr151 S P 164 L (.int (x + y) :: st) sh M c s) := propext (mv_R_iff (i := .iadd) (len := 1) (ax := []) (by decide +kernel))
theorem e151_164 {x : Int32} {a : Nat} : mr151 S P 164 L (.int x :: .ref a :: st) sh M c s = (True ∧ mv_kpf sh M a 5 26 x (mr151 S P) 167 L st c s) := propext (mv_R_iff (i := .putfield 130) (len := 3) (ax := [1051, 0, 5, 26, 0]) (by decide +kernel))
theorem e151_167 : mr151 S P 167 L st sh M c s = (mr151 S P 5 L st sh M c s) := propext (mv_R_iff (i := .goto (-162)) (len := 3) (ax := [5]) (by decide +kernel))
theorem e151_170 : mr151 S P 170 L st sh M c s = (q_isA (q_gv L 0) ∧ mr151 S P 171 L (q_gv L 0 :: st) sh M c s) := (propext (mv_R_iff (i := .aload_n 0) (len := 1) (ax := []) (by decide +kernel))).trans (q_ldA_eq (K := fun st => mr151 S P 171 L st sh M c s))
theorem e151_171 {a : Nat} : mr151 S P 171 L (.ref a :: st) sh M c s = (mv_kgf sh M a 5 26 (mr151 S P) 174 L st c s) := propext (mv_R_iff (i := .getfield 130) (len := 3) (ax := [1051, 0, 5, 26]) (by decide +kernel))
theorem e151_174 {x : Int32} : mr151 S P 174 L (.int x :: st) sh M c s = (if x ≤ nI 0 then mr151 S P 181 L st sh M c s else mr151 S P 177 L st sh M c s) := (propext (mv_R_iff (i := .ifCond .le 7) (len := 3) (ax := [181]) (by decide +kernel))).trans (q_br)
theorem e151_177 : mr151 S P 177 L st sh M c s = (mr151 S P 178 L (.int (nI 1) :: st) sh M c s) := propext (mv_R_iff (i := .iconst 1) (len := 1) (ax := []) (by decide +kernel))
theorem e151_178 : mr151 S P 178 L st sh M c s = (mr151 S P 182 L st sh M c s) := propext (mv_R_iff (i := .goto 4) (len := 3) (ax := [182]) (by decide +kernel))
theorem e151_181 : mr151 S P 181 L st sh M c s = (mr151 S P 182 L (.int (nI 0) :: st) sh M c s) := propext (mv_R_iff (i := .iconst 0) (len := 1) (ax := []) (by decide +kernel))
theorem e151_182 {x : Int32} : mr151 S P 182 L [.int x] sh M c s = (mv_nr 1 x ∧ P (some (.int x)) sh M) := propext (mv_R_iff (i := .ireturn) (len := 1) (ax := [1]) (by decide +kernel))
-- 152: TurnedTabletsModel.readsItem()Z
def mk152 : mv_Cd := [
  (0, .aload_n 0, 1, []),
  (1, .bipush 116, 2, []),
  (3, .invokevirtual 117, 3, [0, 143, 2, 5, 0, 0, 0, 989, 991, 72, 119, 992]),
  (6, .ifCond .eq 10, 3, [16]),
  (9, .aload_n 0, 1, []),
  (10, .invokevirtual 133, 3, [0, 147, 1, 5, 0, 0, 0, 993, 995, 73, 119, 996]),
  (13, .goto 56, 3, [69]),
  (16, .aload_n 0, 1, []),
  (17, .bipush 112, 2, []),
  (19, .invokevirtual 117, 3, [0, 143, 2, 5, 0, 0, 0, 989, 991, 72, 119, 992]),
  (22, .ifCond .eq 10, 3, [32]),
  (25, .aload_n 0, 1, []),
  (26, .invokevirtual 136, 3, [0, 149, 1, 5, 0, 0, 0, 1010, 1012, 76, 119, 1013]),
  (29, .goto 40, 3, [69]),
  (32, .aload_n 0, 1, []),
  (33, .bipush 108, 2, []),
  (35, .invokevirtual 117, 3, [0, 143, 2, 5, 0, 0, 0, 989, 991, 72, 119, 992]),
  (38, .ifCond .eq 10, 3, [48]),
  (41, .aload_n 0, 1, []),
  (42, .invokevirtual 139, 3, [0, 150, 1, 5, 0, 0, 0, 1017, 1019, 77, 119, 1020]),
  (45, .goto 24, 3, [69]),
  (48, .aload_n 0, 1, []),
  (49, .bipush 100, 2, []),
  (51, .invokevirtual 117, 3, [0, 143, 2, 5, 0, 0, 0, 989, 991, 72, 119, 992]),
  (54, .ifCond .eq 14, 3, [68]),
  (57, .aload_n 0, 1, []),
  (58, .invokevirtual 142, 3, [0, 151, 1, 5, 0, 0, 0, 1021, 1023, 78, 119, 1024]),
  (61, .ifCond .eq 7, 3, [68]),
  (64, .iconst 1, 1, []),
  (65, .goto 4, 3, [69]),
  (68, .iconst 0, 1, []),
  (69, .istore_n 1, 1, []),
  (70, .iload_n 1, 1, []),
  (71, .ifCond .eq 16, 3, [87]),
  (74, .aload_n 0, 1, []),
  (75, .bipush 59, 2, []),
  (77, .invokevirtual 117, 3, [0, 143, 2, 5, 0, 0, 0, 989, 991, 72, 119, 992]),
  (80, .ifCond .eq 7, 3, [87]),
  (83, .iconst 1, 1, []),
  (84, .goto 4, 3, [88]),
  (87, .iconst 0, 1, []),
  (88, .ireturn, 1, [1])]
def mr152 (S : Nat → mv_Sp) (P : mv_Post) : mv_Kt := mv_R mv_DF mk152 S (0, 0) P
theorem e152_0 : mr152 S P 0 L st sh M c s = (q_isA (q_gv L 0) ∧ mr152 S P 1 L (q_gv L 0 :: st) sh M c s) := (propext (mv_R_iff (i := .aload_n 0) (len := 1) (ax := []) (by decide +kernel))).trans (q_ldA_eq (K := fun st => mr152 S P 1 L st sh M c s))
theorem e152_1 : mr152 S P 1 L st sh M c s = (mr152 S P 3 L (.int (nI 116) :: st) sh M c s) := propext (mv_R_iff (i := .bipush 116) (len := 2) (ax := []) (by decide +kernel))
theorem e152_3 {v2 : Value} {v1 : Value} : mr152 S P 3 L (v2 :: v1 :: st) sh M c s = (mv_ss st ≤ 8 ∧ c ≤ 0 ∧ s ≤ 0 ∧ mv_isO sh (some v1) 5 ∧ mv_kal S 143 [v1, v2] sh M (mr152 S P) 6 L st c s) := (propext (mv_R_iff (i := .invokevirtual 117) (len := 3) (ax := [0, 143, 2, 5, 0, 0, 0, 989, 991, 72, 119, 992]) (by decide +kernel))).trans (q_call0)
theorem e152_6 {x : Int32} : mr152 S P 6 L (.int x :: st) sh M c s = (if x = nI 0 then mr152 S P 16 L st sh M c s else mr152 S P 9 L st sh M c s) := (propext (mv_R_iff (i := .ifCond .eq 10) (len := 3) (ax := [16]) (by decide +kernel))).trans (q_br)
theorem e152_9 : mr152 S P 9 L st sh M c s = (q_isA (q_gv L 0) ∧ mr152 S P 10 L (q_gv L 0 :: st) sh M c s) := (propext (mv_R_iff (i := .aload_n 0) (len := 1) (ax := []) (by decide +kernel))).trans (q_ldA_eq (K := fun st => mr152 S P 10 L st sh M c s))
theorem e152_10 {v1 : Value} : mr152 S P 10 L (v1 :: st) sh M c s = (mv_ss st ≤ 8 ∧ c ≤ 0 ∧ s ≤ 0 ∧ mv_isO sh (some v1) 5 ∧ mv_kal S 147 [v1] sh M (mr152 S P) 13 L st c s) := (propext (mv_R_iff (i := .invokevirtual 133) (len := 3) (ax := [0, 147, 1, 5, 0, 0, 0, 993, 995, 73, 119, 996]) (by decide +kernel))).trans (q_call0)
theorem e152_13 : mr152 S P 13 L st sh M c s = (mr152 S P 69 L st sh M c s) := propext (mv_R_iff (i := .goto 56) (len := 3) (ax := [69]) (by decide +kernel))
theorem e152_16 : mr152 S P 16 L st sh M c s = (q_isA (q_gv L 0) ∧ mr152 S P 17 L (q_gv L 0 :: st) sh M c s) := (propext (mv_R_iff (i := .aload_n 0) (len := 1) (ax := []) (by decide +kernel))).trans (q_ldA_eq (K := fun st => mr152 S P 17 L st sh M c s))
theorem e152_17 : mr152 S P 17 L st sh M c s = (mr152 S P 19 L (.int (nI 112) :: st) sh M c s) := propext (mv_R_iff (i := .bipush 112) (len := 2) (ax := []) (by decide +kernel))
theorem e152_19 {v2 : Value} {v1 : Value} : mr152 S P 19 L (v2 :: v1 :: st) sh M c s = (mv_ss st ≤ 8 ∧ c ≤ 0 ∧ s ≤ 0 ∧ mv_isO sh (some v1) 5 ∧ mv_kal S 143 [v1, v2] sh M (mr152 S P) 22 L st c s) := (propext (mv_R_iff (i := .invokevirtual 117) (len := 3) (ax := [0, 143, 2, 5, 0, 0, 0, 989, 991, 72, 119, 992]) (by decide +kernel))).trans (q_call0)
theorem e152_22 {x : Int32} : mr152 S P 22 L (.int x :: st) sh M c s = (if x = nI 0 then mr152 S P 32 L st sh M c s else mr152 S P 25 L st sh M c s) := (propext (mv_R_iff (i := .ifCond .eq 10) (len := 3) (ax := [32]) (by decide +kernel))).trans (q_br)
theorem e152_25 : mr152 S P 25 L st sh M c s = (q_isA (q_gv L 0) ∧ mr152 S P 26 L (q_gv L 0 :: st) sh M c s) := (propext (mv_R_iff (i := .aload_n 0) (len := 1) (ax := []) (by decide +kernel))).trans (q_ldA_eq (K := fun st => mr152 S P 26 L st sh M c s))
theorem e152_26 {v1 : Value} : mr152 S P 26 L (v1 :: st) sh M c s = (mv_ss st ≤ 8 ∧ c ≤ 0 ∧ s ≤ 0 ∧ mv_isO sh (some v1) 5 ∧ mv_kal S 149 [v1] sh M (mr152 S P) 29 L st c s) := (propext (mv_R_iff (i := .invokevirtual 136) (len := 3) (ax := [0, 149, 1, 5, 0, 0, 0, 1010, 1012, 76, 119, 1013]) (by decide +kernel))).trans (q_call0)
theorem e152_29 : mr152 S P 29 L st sh M c s = (mr152 S P 69 L st sh M c s) := propext (mv_R_iff (i := .goto 40) (len := 3) (ax := [69]) (by decide +kernel))
theorem e152_32 : mr152 S P 32 L st sh M c s = (q_isA (q_gv L 0) ∧ mr152 S P 33 L (q_gv L 0 :: st) sh M c s) := (propext (mv_R_iff (i := .aload_n 0) (len := 1) (ax := []) (by decide +kernel))).trans (q_ldA_eq (K := fun st => mr152 S P 33 L st sh M c s))
theorem e152_33 : mr152 S P 33 L st sh M c s = (mr152 S P 35 L (.int (nI 108) :: st) sh M c s) := propext (mv_R_iff (i := .bipush 108) (len := 2) (ax := []) (by decide +kernel))
theorem e152_35 {v2 : Value} {v1 : Value} : mr152 S P 35 L (v2 :: v1 :: st) sh M c s = (mv_ss st ≤ 8 ∧ c ≤ 0 ∧ s ≤ 0 ∧ mv_isO sh (some v1) 5 ∧ mv_kal S 143 [v1, v2] sh M (mr152 S P) 38 L st c s) := (propext (mv_R_iff (i := .invokevirtual 117) (len := 3) (ax := [0, 143, 2, 5, 0, 0, 0, 989, 991, 72, 119, 992]) (by decide +kernel))).trans (q_call0)
theorem e152_38 {x : Int32} : mr152 S P 38 L (.int x :: st) sh M c s = (if x = nI 0 then mr152 S P 48 L st sh M c s else mr152 S P 41 L st sh M c s) := (propext (mv_R_iff (i := .ifCond .eq 10) (len := 3) (ax := [48]) (by decide +kernel))).trans (q_br)
theorem e152_41 : mr152 S P 41 L st sh M c s = (q_isA (q_gv L 0) ∧ mr152 S P 42 L (q_gv L 0 :: st) sh M c s) := (propext (mv_R_iff (i := .aload_n 0) (len := 1) (ax := []) (by decide +kernel))).trans (q_ldA_eq (K := fun st => mr152 S P 42 L st sh M c s))
theorem e152_42 {v1 : Value} : mr152 S P 42 L (v1 :: st) sh M c s = (mv_ss st ≤ 8 ∧ c ≤ 0 ∧ s ≤ 0 ∧ mv_isO sh (some v1) 5 ∧ mv_kal S 150 [v1] sh M (mr152 S P) 45 L st c s) := (propext (mv_R_iff (i := .invokevirtual 139) (len := 3) (ax := [0, 150, 1, 5, 0, 0, 0, 1017, 1019, 77, 119, 1020]) (by decide +kernel))).trans (q_call0)
theorem e152_45 : mr152 S P 45 L st sh M c s = (mr152 S P 69 L st sh M c s) := propext (mv_R_iff (i := .goto 24) (len := 3) (ax := [69]) (by decide +kernel))
theorem e152_48 : mr152 S P 48 L st sh M c s = (q_isA (q_gv L 0) ∧ mr152 S P 49 L (q_gv L 0 :: st) sh M c s) := (propext (mv_R_iff (i := .aload_n 0) (len := 1) (ax := []) (by decide +kernel))).trans (q_ldA_eq (K := fun st => mr152 S P 49 L st sh M c s))
theorem e152_49 : mr152 S P 49 L st sh M c s = (mr152 S P 51 L (.int (nI 100) :: st) sh M c s) := propext (mv_R_iff (i := .bipush 100) (len := 2) (ax := []) (by decide +kernel))
theorem e152_51 {v2 : Value} {v1 : Value} : mr152 S P 51 L (v2 :: v1 :: st) sh M c s = (mv_ss st ≤ 8 ∧ c ≤ 0 ∧ s ≤ 0 ∧ mv_isO sh (some v1) 5 ∧ mv_kal S 143 [v1, v2] sh M (mr152 S P) 54 L st c s) := (propext (mv_R_iff (i := .invokevirtual 117) (len := 3) (ax := [0, 143, 2, 5, 0, 0, 0, 989, 991, 72, 119, 992]) (by decide +kernel))).trans (q_call0)
theorem e152_54 {x : Int32} : mr152 S P 54 L (.int x :: st) sh M c s = (if x = nI 0 then mr152 S P 68 L st sh M c s else mr152 S P 57 L st sh M c s) := (propext (mv_R_iff (i := .ifCond .eq 14) (len := 3) (ax := [68]) (by decide +kernel))).trans (q_br)
theorem e152_57 : mr152 S P 57 L st sh M c s = (q_isA (q_gv L 0) ∧ mr152 S P 58 L (q_gv L 0 :: st) sh M c s) := (propext (mv_R_iff (i := .aload_n 0) (len := 1) (ax := []) (by decide +kernel))).trans (q_ldA_eq (K := fun st => mr152 S P 58 L st sh M c s))
theorem e152_58 {v1 : Value} : mr152 S P 58 L (v1 :: st) sh M c s = (mv_ss st ≤ 8 ∧ c ≤ 0 ∧ s ≤ 0 ∧ mv_isO sh (some v1) 5 ∧ mv_kal S 151 [v1] sh M (mr152 S P) 61 L st c s) := (propext (mv_R_iff (i := .invokevirtual 142) (len := 3) (ax := [0, 151, 1, 5, 0, 0, 0, 1021, 1023, 78, 119, 1024]) (by decide +kernel))).trans (q_call0)
theorem e152_61 {x : Int32} : mr152 S P 61 L (.int x :: st) sh M c s = (if x = nI 0 then mr152 S P 68 L st sh M c s else mr152 S P 64 L st sh M c s) := (propext (mv_R_iff (i := .ifCond .eq 7) (len := 3) (ax := [68]) (by decide +kernel))).trans (q_br)
theorem e152_64 : mr152 S P 64 L st sh M c s = (mr152 S P 65 L (.int (nI 1) :: st) sh M c s) := propext (mv_R_iff (i := .iconst 1) (len := 1) (ax := []) (by decide +kernel))
theorem e152_65 : mr152 S P 65 L st sh M c s = (mr152 S P 69 L st sh M c s) := propext (mv_R_iff (i := .goto 4) (len := 3) (ax := [69]) (by decide +kernel))
theorem e152_68 : mr152 S P 68 L st sh M c s = (mr152 S P 69 L (.int (nI 0) :: st) sh M c s) := propext (mv_R_iff (i := .iconst 0) (len := 1) (ax := []) (by decide +kernel))
theorem e152_69 {x : Int32} : mr152 S P 69 L (.int x :: st) sh M c s = (q_hs L 1 ∧ mr152 S P 70 (L.set 1 (some (.int x))) st sh M c s) := (propext (mv_R_iff (i := .istore_n 1) (len := 1) (ax := []) (by decide +kernel))).trans (q_st_eq (K := fun L => mr152 S P 70 L st sh M c s))
theorem e152_70 : mr152 S P 70 L st sh M c s = (q_isI (q_gv L 1) ∧ mr152 S P 71 L (q_gv L 1 :: st) sh M c s) := (propext (mv_R_iff (i := .iload_n 1) (len := 1) (ax := []) (by decide +kernel))).trans (q_ldI_eq (K := fun st => mr152 S P 71 L st sh M c s))
theorem e152_71 {x : Int32} : mr152 S P 71 L (.int x :: st) sh M c s = (if x = nI 0 then mr152 S P 87 L st sh M c s else mr152 S P 74 L st sh M c s) := (propext (mv_R_iff (i := .ifCond .eq 16) (len := 3) (ax := [87]) (by decide +kernel))).trans (q_br)
theorem e152_74 : mr152 S P 74 L st sh M c s = (q_isA (q_gv L 0) ∧ mr152 S P 75 L (q_gv L 0 :: st) sh M c s) := (propext (mv_R_iff (i := .aload_n 0) (len := 1) (ax := []) (by decide +kernel))).trans (q_ldA_eq (K := fun st => mr152 S P 75 L st sh M c s))
theorem e152_75 : mr152 S P 75 L st sh M c s = (mr152 S P 77 L (.int (nI 59) :: st) sh M c s) := propext (mv_R_iff (i := .bipush 59) (len := 2) (ax := []) (by decide +kernel))
theorem e152_77 {v2 : Value} {v1 : Value} : mr152 S P 77 L (v2 :: v1 :: st) sh M c s = (mv_ss st ≤ 8 ∧ c ≤ 0 ∧ s ≤ 0 ∧ mv_isO sh (some v1) 5 ∧ mv_kal S 143 [v1, v2] sh M (mr152 S P) 80 L st c s) := (propext (mv_R_iff (i := .invokevirtual 117) (len := 3) (ax := [0, 143, 2, 5, 0, 0, 0, 989, 991, 72, 119, 992]) (by decide +kernel))).trans (q_call0)
theorem e152_80 {x : Int32} : mr152 S P 80 L (.int x :: st) sh M c s = (if x = nI 0 then mr152 S P 87 L st sh M c s else mr152 S P 83 L st sh M c s) := (propext (mv_R_iff (i := .ifCond .eq 7) (len := 3) (ax := [87]) (by decide +kernel))).trans (q_br)
theorem e152_83 : mr152 S P 83 L st sh M c s = (mr152 S P 84 L (.int (nI 1) :: st) sh M c s) := propext (mv_R_iff (i := .iconst 1) (len := 1) (ax := []) (by decide +kernel))
theorem e152_84 : mr152 S P 84 L st sh M c s = (mr152 S P 88 L st sh M c s) := propext (mv_R_iff (i := .goto 4) (len := 3) (ax := [88]) (by decide +kernel))
theorem e152_87 : mr152 S P 87 L st sh M c s = (mr152 S P 88 L (.int (nI 0) :: st) sh M c s) := propext (mv_R_iff (i := .iconst 0) (len := 1) (ax := []) (by decide +kernel))
theorem e152_88 {x : Int32} : mr152 S P 88 L [.int x] sh M c s = (mv_nr 1 x ∧ P (some (.int x)) sh M) := propext (mv_R_iff (i := .ireturn) (len := 1) (ax := [1]) (by decide +kernel))
-- 153: TurnedTabletsModel.faultAt()I
def mk153 : mv_Cd := [
  (0, .aload_n 0, 1, []),
  (1, .iconst 0, 1, []),
  (2, .putfield 96, 3, [1042, 0, 5, 17, 0]),
  (5, .aload_n 0, 1, []),
  (6, .iconst 0, 1, []),
  (7, .putfield 110, 3, [1044, 0, 5, 19, 0]),
  (10, .aload_n 0, 1, []),
  (11, .iconst 0, 1, []),
  (12, .putfield 121, 3, [1048, 0, 5, 23, 0]),
  (15, .aload_n 0, 1, []),
  (16, .bipush 20, 2, []),
  (18, .putfield 127, 3, [1050, 0, 5, 25, 0]),
  (21, .aload_n 0, 1, []),
  (22, .iconst 0, 1, []),
  (23, .putfield 130, 3, [1051, 0, 5, 26, 0]),
  (26, .aload_n 0, 1, []),
  (27, .getfield 96, 3, [1042, 0, 5, 17]),
  (30, .aload_n 0, 1, []),
  (31, .getfield 80, 3, [1038, 0, 5, 13]),
  (34, .if_icmp .ge 20, 3, [54]),
  (37, .aload_n 0, 1, []),
  (38, .getfield 96, 3, [1042, 0, 5, 17]),
  (41, .istore_n 1, 1, []),
  (42, .aload_n 0, 1, []),
  (43, .invokevirtual 145, 3, [0, 152, 1, 5, 0, 0, 0, 985, 987, 71, 119, 988]),
  (46, .ifCond .ne 5, 3, [51]),
  (49, .iload_n 1, 1, []),
  (50, .ireturn, 1, [0]),
  (51, .goto (-25), 3, [26]),
  (54, .bipush (-4), 2, []),
  (56, .ireturn, 1, [0])]
def mr153 (S : Nat → mv_Sp) (P : mv_Post) : mv_Kt := mv_R mv_DF mk153 S (0, 0) P
theorem e153_0 : mr153 S P 0 L st sh M c s = (q_isA (q_gv L 0) ∧ mr153 S P 1 L (q_gv L 0 :: st) sh M c s) := (propext (mv_R_iff (i := .aload_n 0) (len := 1) (ax := []) (by decide +kernel))).trans (q_ldA_eq (K := fun st => mr153 S P 1 L st sh M c s))
theorem e153_1 : mr153 S P 1 L st sh M c s = (mr153 S P 2 L (.int (nI 0) :: st) sh M c s) := propext (mv_R_iff (i := .iconst 0) (len := 1) (ax := []) (by decide +kernel))
theorem e153_2 {x : Int32} {a : Nat} : mr153 S P 2 L (.int x :: .ref a :: st) sh M c s = (True ∧ mv_kpf sh M a 5 17 x (mr153 S P) 5 L st c s) := propext (mv_R_iff (i := .putfield 96) (len := 3) (ax := [1042, 0, 5, 17, 0]) (by decide +kernel))
theorem e153_5 : mr153 S P 5 L st sh M c s = (q_isA (q_gv L 0) ∧ mr153 S P 6 L (q_gv L 0 :: st) sh M c s) := (propext (mv_R_iff (i := .aload_n 0) (len := 1) (ax := []) (by decide +kernel))).trans (q_ldA_eq (K := fun st => mr153 S P 6 L st sh M c s))
theorem e153_6 : mr153 S P 6 L st sh M c s = (mr153 S P 7 L (.int (nI 0) :: st) sh M c s) := propext (mv_R_iff (i := .iconst 0) (len := 1) (ax := []) (by decide +kernel))
theorem e153_7 {x : Int32} {a : Nat} : mr153 S P 7 L (.int x :: .ref a :: st) sh M c s = (True ∧ mv_kpf sh M a 5 19 x (mr153 S P) 10 L st c s) := propext (mv_R_iff (i := .putfield 110) (len := 3) (ax := [1044, 0, 5, 19, 0]) (by decide +kernel))
theorem e153_10 : mr153 S P 10 L st sh M c s = (q_isA (q_gv L 0) ∧ mr153 S P 11 L (q_gv L 0 :: st) sh M c s) := (propext (mv_R_iff (i := .aload_n 0) (len := 1) (ax := []) (by decide +kernel))).trans (q_ldA_eq (K := fun st => mr153 S P 11 L st sh M c s))
theorem e153_11 : mr153 S P 11 L st sh M c s = (mr153 S P 12 L (.int (nI 0) :: st) sh M c s) := propext (mv_R_iff (i := .iconst 0) (len := 1) (ax := []) (by decide +kernel))
theorem e153_12 {x : Int32} {a : Nat} : mr153 S P 12 L (.int x :: .ref a :: st) sh M c s = (True ∧ mv_kpf sh M a 5 23 x (mr153 S P) 15 L st c s) := propext (mv_R_iff (i := .putfield 121) (len := 3) (ax := [1048, 0, 5, 23, 0]) (by decide +kernel))
theorem e153_15 : mr153 S P 15 L st sh M c s = (q_isA (q_gv L 0) ∧ mr153 S P 16 L (q_gv L 0 :: st) sh M c s) := (propext (mv_R_iff (i := .aload_n 0) (len := 1) (ax := []) (by decide +kernel))).trans (q_ldA_eq (K := fun st => mr153 S P 16 L st sh M c s))
theorem e153_16 : mr153 S P 16 L st sh M c s = (mr153 S P 18 L (.int (nI 20) :: st) sh M c s) := propext (mv_R_iff (i := .bipush 20) (len := 2) (ax := []) (by decide +kernel))
theorem e153_18 {x : Int32} {a : Nat} : mr153 S P 18 L (.int x :: .ref a :: st) sh M c s = (True ∧ mv_kpf sh M a 5 25 x (mr153 S P) 21 L st c s) := propext (mv_R_iff (i := .putfield 127) (len := 3) (ax := [1050, 0, 5, 25, 0]) (by decide +kernel))
theorem e153_21 : mr153 S P 21 L st sh M c s = (q_isA (q_gv L 0) ∧ mr153 S P 22 L (q_gv L 0 :: st) sh M c s) := (propext (mv_R_iff (i := .aload_n 0) (len := 1) (ax := []) (by decide +kernel))).trans (q_ldA_eq (K := fun st => mr153 S P 22 L st sh M c s))
theorem e153_22 : mr153 S P 22 L st sh M c s = (mr153 S P 23 L (.int (nI 0) :: st) sh M c s) := propext (mv_R_iff (i := .iconst 0) (len := 1) (ax := []) (by decide +kernel))
theorem e153_23 {x : Int32} {a : Nat} : mr153 S P 23 L (.int x :: .ref a :: st) sh M c s = (True ∧ mv_kpf sh M a 5 26 x (mr153 S P) 26 L st c s) := propext (mv_R_iff (i := .putfield 130) (len := 3) (ax := [1051, 0, 5, 26, 0]) (by decide +kernel))
theorem e153_26 : mr153 S P 26 L st sh M c s = (q_isA (q_gv L 0) ∧ mr153 S P 27 L (q_gv L 0 :: st) sh M c s) := (propext (mv_R_iff (i := .aload_n 0) (len := 1) (ax := []) (by decide +kernel))).trans (q_ldA_eq (K := fun st => mr153 S P 27 L st sh M c s))
theorem e153_27 {a : Nat} : mr153 S P 27 L (.ref a :: st) sh M c s = (mv_kgf sh M a 5 17 (mr153 S P) 30 L st c s) := propext (mv_R_iff (i := .getfield 96) (len := 3) (ax := [1042, 0, 5, 17]) (by decide +kernel))
theorem e153_30 : mr153 S P 30 L st sh M c s = (q_isA (q_gv L 0) ∧ mr153 S P 31 L (q_gv L 0 :: st) sh M c s) := (propext (mv_R_iff (i := .aload_n 0) (len := 1) (ax := []) (by decide +kernel))).trans (q_ldA_eq (K := fun st => mr153 S P 31 L st sh M c s))
theorem e153_31 {a : Nat} : mr153 S P 31 L (.ref a :: st) sh M c s = (mv_kgf sh M a 5 13 (mr153 S P) 34 L st c s) := propext (mv_R_iff (i := .getfield 80) (len := 3) (ax := [1038, 0, 5, 13]) (by decide +kernel))
theorem e153_34 {y : Int32} {x : Int32} : mr153 S P 34 L (.int y :: .int x :: st) sh M c s = (if y ≤ x then mr153 S P 54 L st sh M c s else mr153 S P 37 L st sh M c s) := (propext (mv_R_iff (i := .if_icmp .ge 20) (len := 3) (ax := [54]) (by decide +kernel))).trans (q_br)
theorem e153_37 : mr153 S P 37 L st sh M c s = (q_isA (q_gv L 0) ∧ mr153 S P 38 L (q_gv L 0 :: st) sh M c s) := (propext (mv_R_iff (i := .aload_n 0) (len := 1) (ax := []) (by decide +kernel))).trans (q_ldA_eq (K := fun st => mr153 S P 38 L st sh M c s))
theorem e153_38 {a : Nat} : mr153 S P 38 L (.ref a :: st) sh M c s = (mv_kgf sh M a 5 17 (mr153 S P) 41 L st c s) := propext (mv_R_iff (i := .getfield 96) (len := 3) (ax := [1042, 0, 5, 17]) (by decide +kernel))
theorem e153_41 {x : Int32} : mr153 S P 41 L (.int x :: st) sh M c s = (q_hs L 1 ∧ mr153 S P 42 (L.set 1 (some (.int x))) st sh M c s) := (propext (mv_R_iff (i := .istore_n 1) (len := 1) (ax := []) (by decide +kernel))).trans (q_st_eq (K := fun L => mr153 S P 42 L st sh M c s))
theorem e153_42 : mr153 S P 42 L st sh M c s = (q_isA (q_gv L 0) ∧ mr153 S P 43 L (q_gv L 0 :: st) sh M c s) := (propext (mv_R_iff (i := .aload_n 0) (len := 1) (ax := []) (by decide +kernel))).trans (q_ldA_eq (K := fun st => mr153 S P 43 L st sh M c s))
theorem e153_43 {v1 : Value} : mr153 S P 43 L (v1 :: st) sh M c s = (mv_ss st ≤ 8 ∧ c ≤ 0 ∧ s ≤ 0 ∧ mv_isO sh (some v1) 5 ∧ mv_kal S 152 [v1] sh M (mr153 S P) 46 L st c s) := (propext (mv_R_iff (i := .invokevirtual 145) (len := 3) (ax := [0, 152, 1, 5, 0, 0, 0, 985, 987, 71, 119, 988]) (by decide +kernel))).trans (q_call0)
theorem e153_46 {x : Int32} : mr153 S P 46 L (.int x :: st) sh M c s = (if x = nI 0 then mr153 S P 49 L st sh M c s else mr153 S P 51 L st sh M c s) := (propext (mv_R_iff (i := .ifCond .ne 5) (len := 3) (ax := [51]) (by decide +kernel))).trans (q_br')
theorem e153_49 : mr153 S P 49 L st sh M c s = (q_isI (q_gv L 1) ∧ mr153 S P 50 L (q_gv L 1 :: st) sh M c s) := (propext (mv_R_iff (i := .iload_n 1) (len := 1) (ax := []) (by decide +kernel))).trans (q_ldI_eq (K := fun st => mr153 S P 50 L st sh M c s))
theorem e153_50 {x : Int32} : mr153 S P 50 L [.int x] sh M c s = (mv_nr 0 x ∧ P (some (.int x)) sh M) := propext (mv_R_iff (i := .ireturn) (len := 1) (ax := [0]) (by decide +kernel))
theorem e153_51 : mr153 S P 51 L st sh M c s = (mr153 S P 26 L st sh M c s) := propext (mv_R_iff (i := .goto (-25)) (len := 3) (ax := [26]) (by decide +kernel))
theorem e153_54 : mr153 S P 54 L st sh M c s = (mr153 S P 56 L (.int (Int32.ofInt (-4)) :: st) sh M c s) := (propext (mv_R_iff (i := .bipush (-4)) (len := 2) (ax := []) (by decide +kernel))).trans (congrArg (fun z => mr153 S P 56 L (.int z :: st) sh M c s) (by decide : (Int8.ofInt (-4)).toInt32 = Int32.ofInt (-4)))
theorem e153_56 {x : Int32} : mr153 S P 56 L [.int x] sh M c s = (mv_nr 0 x ∧ P (some (.int x)) sh M) := propext (mv_R_iff (i := .ireturn) (len := 1) (ax := [0]) (by decide +kernel))
-- 154: TurnedTabletsModel.lay()I
def mk154 : mv_Cd := [
  (0, .aload_n 0, 1, []),
  (1, .invokevirtual 148, 3, [0, 153, 1, 5, 0, 0, 0, 981, 983, 70, 119, 984]),
  (4, .bipush (-4), 2, []),
  (6, .if_icmp .ne 17, 3, [23]),
  (9, .aload_n 0, 1, []),
  (10, .getfield 110, 3, [1044, 0, 5, 19]),
  (13, .ifCond .eq 10, 3, [23]),
  (16, .aload_n 0, 1, []),
  (17, .getfield 121, 3, [1048, 0, 5, 23]),
  (20, .ifCond .ne 6, 3, [26]),
  (23, .bipush (-2), 2, []),
  (25, .ireturn, 1, [0]),
  (26, .aload_n 0, 1, []),
  (27, .aload_n 0, 1, []),
  (28, .getfield 110, 3, [1044, 0, 5, 19]),
  (31, .putfield 151, 3, [1028, 0, 5, 3, 0]),
  (34, .aload_n 0, 1, []),
  (35, .aload_n 0, 1, []),
  (36, .getfield 121, 3, [1048, 0, 5, 23]),
  (39, .putfield 154, 3, [1032, 0, 5, 7, 0]),
  (42, .aload_n 0, 1, []),
  (43, .aload_n 0, 1, []),
  (44, .getfield 127, 3, [1050, 0, 5, 25]),
  (47, .putfield 157, 3, [1034, 0, 5, 9, 0]),
  (50, .aload_n 0, 1, []),
  (51, .aload_n 0, 1, []),
  (52, .getfield 130, 3, [1051, 0, 5, 26]),
  (55, .putfield 160, 3, [1035, 0, 5, 10, 0]),
  (58, .iconst 0, 1, []),
  (59, .istore_n 1, 1, []),
  (60, .iload_n 1, 1, []),
  (61, .sipush 799, 3, []),
  (64, .if_icmp .ge 16, 3, [80]),
  (67, .aload_n 0, 1, []),
  (68, .getfield 7, 3, [1025, 0, 5, 0]),
  (71, .iload_n 1, 1, []),
  (72, .iconst 0, 1, []),
  (73, .iastore, 1, []),
  (74, .iinc 1 1, 3, []),
  (77, .goto (-17), 3, [60]),
  (80, .iconst 0, 1, []),
  (81, .istore_n 1, 1, []),
  (82, .iload_n 1, 1, []),
  (83, .bipush 6, 2, []),
  (85, .if_icmp .ge 82, 3, [167]),
  (88, .aload_n 0, 1, []),
  (89, .getfield 13, 3, [1029, 0, 5, 4]),
  (92, .iload_n 1, 1, []),
  (93, .aload_n 0, 1, []),
  (94, .getfield 37, 3, [1045, 0, 5, 20]),
  (97, .iload_n 1, 1, []),
  (98, .iaload, 1, []),
  (99, .iastore, 1, []),
  (100, .aload_n 0, 1, []),
  (101, .getfield 19, 3, [1031, 0, 5, 6]),
  (104, .iload_n 1, 1, []),
  (105, .aload_n 0, 1, []),
  (106, .getfield 40, 3, [1046, 0, 5, 21]),
  (109, .iload_n 1, 1, []),
  (110, .iaload, 1, []),
  (111, .iastore, 1, []),
  (112, .aload_n 0, 1, []),
  (113, .getfield 7, 3, [1025, 0, 5, 0]),
  (116, .iconst 0, 1, []),
  (117, .iload_n 1, 1, []),
  (118, .iadd, 1, []),
  (119, .iload_n 1, 1, []),
  (120, .aload_n 0, 1, []),
  (121, .getfield 151, 3, [1028, 0, 5, 3]),
  (124, .if_icmp .ge 12, 3, [136]),
  (127, .aload_n 0, 1, []),
  (128, .getfield 40, 3, [1046, 0, 5, 21]),
  (131, .iload_n 1, 1, []),
  (132, .iaload, 1, []),
  (133, .goto 4, 3, [137]),
  (136, .iconst 0, 1, []),
  (137, .iastore, 1, []),
  (138, .aload_n 0, 1, []),
  (139, .getfield 7, 3, [1025, 0, 5, 0]),
  (142, .bipush 24, 2, []),
  (144, .iload_n 1, 1, []),
  (145, .iadd, 1, []),
  (146, .bipush (-4), 2, []),
  (148, .iastore, 1, []),
  (149, .aload_n 0, 1, []),
  (150, .getfield 22, 3, [1033, 0, 5, 8]),
  (153, .iload_n 1, 1, []),
  (154, .aload_n 0, 1, []),
  (155, .getfield 46, 3, [1049, 0, 5, 24]),
  (158, .iload_n 1, 1, []),
  (159, .iaload, 1, []),
  (160, .iastore, 1, []),
  (161, .iinc 1 1, 3, []),
  (164, .goto (-82), 3, [82]),
  (167, .iconst 0, 1, []),
  (168, .istore_n 1, 1, []),
  (169, .iload_n 1, 1, []),
  (170, .bipush 24, 2, []),
  (172, .if_icmp .ge 21, 3, [193]),
  (175, .aload_n 0, 1, []),
  (176, .getfield 16, 3, [1030, 0, 5, 5]),
  (179, .iload_n 1, 1, []),
  (180, .aload_n 0, 1, []),
  (181, .getfield 43, 3, [1047, 0, 5, 22]),
  (184, .iload_n 1, 1, []),
  (185, .iaload, 1, []),
  (186, .iastore, 1, []),
  (187, .iinc 1 1, 3, []),
  (190, .goto (-21), 3, [169]),
  (193, .iconst 0, 1, []),
  (194, .istore_n 1, 1, []),
  (195, .iload_n 1, 1, []),
  (196, .bipush 8, 2, []),
  (198, .if_icmp .ge 21, 3, [219]),
  (201, .aload_n 0, 1, []),
  (202, .getfield 25, 3, [1036, 0, 5, 11]),
  (205, .iload_n 1, 1, []),
  (206, .aload_n 0, 1, []),
  (207, .getfield 49, 3, [1052, 0, 5, 27]),
  (210, .iload_n 1, 1, []),
  (211, .iaload, 1, []),
  (212, .iastore, 1, []),
  (213, .iinc 1 1, 3, []),
  (216, .goto (-21), 3, [195]),
  (219, .aload_n 0, 1, []),
  (220, .iconst 0, 1, []),
  (221, .putfield 163, 3, [1026, 0, 5, 1, 0]),
  (224, .aload_n 0, 1, []),
  (225, .iconst 0, 1, []),
  (226, .putfield 166, 3, [1027, 0, 5, 2, 0]),
  (229, .aload_n 0, 1, []),
  (230, .iconst 0, 1, []),
  (231, .putfield 169, 3, [1039, 0, 5, 14, 0]),
  (234, .aload_n 0, 1, []),
  (235, .getfield 151, 3, [1028, 0, 5, 3]),
  (238, .ireturn, 1, [0])]
def mr154 (S : Nat → mv_Sp) (P : mv_Post) : mv_Kt := mv_R mv_DF mk154 S (0, 0) P
theorem e154_0 : mr154 S P 0 L st sh M c s = (q_isA (q_gv L 0) ∧ mr154 S P 1 L (q_gv L 0 :: st) sh M c s) := (propext (mv_R_iff (i := .aload_n 0) (len := 1) (ax := []) (by decide +kernel))).trans (q_ldA_eq (K := fun st => mr154 S P 1 L st sh M c s))
theorem e154_1 {v1 : Value} : mr154 S P 1 L (v1 :: st) sh M c s = (mv_ss st ≤ 8 ∧ c ≤ 0 ∧ s ≤ 0 ∧ mv_isO sh (some v1) 5 ∧ mv_kal S 153 [v1] sh M (mr154 S P) 4 L st c s) := (propext (mv_R_iff (i := .invokevirtual 148) (len := 3) (ax := [0, 153, 1, 5, 0, 0, 0, 981, 983, 70, 119, 984]) (by decide +kernel))).trans (q_call0)
theorem e154_4 : mr154 S P 4 L st sh M c s = (mr154 S P 6 L (.int (Int32.ofInt (-4)) :: st) sh M c s) := (propext (mv_R_iff (i := .bipush (-4)) (len := 2) (ax := []) (by decide +kernel))).trans (congrArg (fun z => mr154 S P 6 L (.int z :: st) sh M c s) (by decide : (Int8.ofInt (-4)).toInt32 = Int32.ofInt (-4)))
theorem e154_6 {y : Int32} {x : Int32} : mr154 S P 6 L (.int y :: .int x :: st) sh M c s = (if x = y then mr154 S P 9 L st sh M c s else mr154 S P 23 L st sh M c s) := (propext (mv_R_iff (i := .if_icmp .ne 17) (len := 3) (ax := [23]) (by decide +kernel))).trans (q_br')
theorem e154_9 : mr154 S P 9 L st sh M c s = (q_isA (q_gv L 0) ∧ mr154 S P 10 L (q_gv L 0 :: st) sh M c s) := (propext (mv_R_iff (i := .aload_n 0) (len := 1) (ax := []) (by decide +kernel))).trans (q_ldA_eq (K := fun st => mr154 S P 10 L st sh M c s))
theorem e154_10 {a : Nat} : mr154 S P 10 L (.ref a :: st) sh M c s = (mv_kgf sh M a 5 19 (mr154 S P) 13 L st c s) := propext (mv_R_iff (i := .getfield 110) (len := 3) (ax := [1044, 0, 5, 19]) (by decide +kernel))
theorem e154_13 {x : Int32} : mr154 S P 13 L (.int x :: st) sh M c s = (if x = nI 0 then mr154 S P 23 L st sh M c s else mr154 S P 16 L st sh M c s) := (propext (mv_R_iff (i := .ifCond .eq 10) (len := 3) (ax := [23]) (by decide +kernel))).trans (q_br)
theorem e154_16 : mr154 S P 16 L st sh M c s = (q_isA (q_gv L 0) ∧ mr154 S P 17 L (q_gv L 0 :: st) sh M c s) := (propext (mv_R_iff (i := .aload_n 0) (len := 1) (ax := []) (by decide +kernel))).trans (q_ldA_eq (K := fun st => mr154 S P 17 L st sh M c s))
theorem e154_17 {a : Nat} : mr154 S P 17 L (.ref a :: st) sh M c s = (mv_kgf sh M a 5 23 (mr154 S P) 20 L st c s) := propext (mv_R_iff (i := .getfield 121) (len := 3) (ax := [1048, 0, 5, 23]) (by decide +kernel))
theorem e154_20 {x : Int32} : mr154 S P 20 L (.int x :: st) sh M c s = (if x = nI 0 then mr154 S P 23 L st sh M c s else mr154 S P 26 L st sh M c s) := (propext (mv_R_iff (i := .ifCond .ne 6) (len := 3) (ax := [26]) (by decide +kernel))).trans (q_br')
theorem e154_23 : mr154 S P 23 L st sh M c s = (mr154 S P 25 L (.int (Int32.ofInt (-2)) :: st) sh M c s) := (propext (mv_R_iff (i := .bipush (-2)) (len := 2) (ax := []) (by decide +kernel))).trans (congrArg (fun z => mr154 S P 25 L (.int z :: st) sh M c s) (by decide : (Int8.ofInt (-2)).toInt32 = Int32.ofInt (-2)))
theorem e154_25 {x : Int32} : mr154 S P 25 L [.int x] sh M c s = (mv_nr 0 x ∧ P (some (.int x)) sh M) := propext (mv_R_iff (i := .ireturn) (len := 1) (ax := [0]) (by decide +kernel))
theorem e154_26 : mr154 S P 26 L st sh M c s = (q_isA (q_gv L 0) ∧ mr154 S P 27 L (q_gv L 0 :: st) sh M c s) := (propext (mv_R_iff (i := .aload_n 0) (len := 1) (ax := []) (by decide +kernel))).trans (q_ldA_eq (K := fun st => mr154 S P 27 L st sh M c s))
theorem e154_27 : mr154 S P 27 L st sh M c s = (q_isA (q_gv L 0) ∧ mr154 S P 28 L (q_gv L 0 :: st) sh M c s) := (propext (mv_R_iff (i := .aload_n 0) (len := 1) (ax := []) (by decide +kernel))).trans (q_ldA_eq (K := fun st => mr154 S P 28 L st sh M c s))
theorem e154_28 {a : Nat} : mr154 S P 28 L (.ref a :: st) sh M c s = (mv_kgf sh M a 5 19 (mr154 S P) 31 L st c s) := propext (mv_R_iff (i := .getfield 110) (len := 3) (ax := [1044, 0, 5, 19]) (by decide +kernel))
theorem e154_31 {x : Int32} {a : Nat} : mr154 S P 31 L (.int x :: .ref a :: st) sh M c s = (True ∧ mv_kpf sh M a 5 3 x (mr154 S P) 34 L st c s) := propext (mv_R_iff (i := .putfield 151) (len := 3) (ax := [1028, 0, 5, 3, 0]) (by decide +kernel))
theorem e154_34 : mr154 S P 34 L st sh M c s = (q_isA (q_gv L 0) ∧ mr154 S P 35 L (q_gv L 0 :: st) sh M c s) := (propext (mv_R_iff (i := .aload_n 0) (len := 1) (ax := []) (by decide +kernel))).trans (q_ldA_eq (K := fun st => mr154 S P 35 L st sh M c s))
theorem e154_35 : mr154 S P 35 L st sh M c s = (q_isA (q_gv L 0) ∧ mr154 S P 36 L (q_gv L 0 :: st) sh M c s) := (propext (mv_R_iff (i := .aload_n 0) (len := 1) (ax := []) (by decide +kernel))).trans (q_ldA_eq (K := fun st => mr154 S P 36 L st sh M c s))
theorem e154_36 {a : Nat} : mr154 S P 36 L (.ref a :: st) sh M c s = (mv_kgf sh M a 5 23 (mr154 S P) 39 L st c s) := propext (mv_R_iff (i := .getfield 121) (len := 3) (ax := [1048, 0, 5, 23]) (by decide +kernel))
theorem e154_39 {x : Int32} {a : Nat} : mr154 S P 39 L (.int x :: .ref a :: st) sh M c s = (True ∧ mv_kpf sh M a 5 7 x (mr154 S P) 42 L st c s) := propext (mv_R_iff (i := .putfield 154) (len := 3) (ax := [1032, 0, 5, 7, 0]) (by decide +kernel))
theorem e154_42 : mr154 S P 42 L st sh M c s = (q_isA (q_gv L 0) ∧ mr154 S P 43 L (q_gv L 0 :: st) sh M c s) := (propext (mv_R_iff (i := .aload_n 0) (len := 1) (ax := []) (by decide +kernel))).trans (q_ldA_eq (K := fun st => mr154 S P 43 L st sh M c s))
theorem e154_43 : mr154 S P 43 L st sh M c s = (q_isA (q_gv L 0) ∧ mr154 S P 44 L (q_gv L 0 :: st) sh M c s) := (propext (mv_R_iff (i := .aload_n 0) (len := 1) (ax := []) (by decide +kernel))).trans (q_ldA_eq (K := fun st => mr154 S P 44 L st sh M c s))
theorem e154_44 {a : Nat} : mr154 S P 44 L (.ref a :: st) sh M c s = (mv_kgf sh M a 5 25 (mr154 S P) 47 L st c s) := propext (mv_R_iff (i := .getfield 127) (len := 3) (ax := [1050, 0, 5, 25]) (by decide +kernel))
theorem e154_47 {x : Int32} {a : Nat} : mr154 S P 47 L (.int x :: .ref a :: st) sh M c s = (True ∧ mv_kpf sh M a 5 9 x (mr154 S P) 50 L st c s) := propext (mv_R_iff (i := .putfield 157) (len := 3) (ax := [1034, 0, 5, 9, 0]) (by decide +kernel))
theorem e154_50 : mr154 S P 50 L st sh M c s = (q_isA (q_gv L 0) ∧ mr154 S P 51 L (q_gv L 0 :: st) sh M c s) := (propext (mv_R_iff (i := .aload_n 0) (len := 1) (ax := []) (by decide +kernel))).trans (q_ldA_eq (K := fun st => mr154 S P 51 L st sh M c s))
theorem e154_51 : mr154 S P 51 L st sh M c s = (q_isA (q_gv L 0) ∧ mr154 S P 52 L (q_gv L 0 :: st) sh M c s) := (propext (mv_R_iff (i := .aload_n 0) (len := 1) (ax := []) (by decide +kernel))).trans (q_ldA_eq (K := fun st => mr154 S P 52 L st sh M c s))
theorem e154_52 {a : Nat} : mr154 S P 52 L (.ref a :: st) sh M c s = (mv_kgf sh M a 5 26 (mr154 S P) 55 L st c s) := propext (mv_R_iff (i := .getfield 130) (len := 3) (ax := [1051, 0, 5, 26]) (by decide +kernel))
theorem e154_55 {x : Int32} {a : Nat} : mr154 S P 55 L (.int x :: .ref a :: st) sh M c s = (True ∧ mv_kpf sh M a 5 10 x (mr154 S P) 58 L st c s) := propext (mv_R_iff (i := .putfield 160) (len := 3) (ax := [1035, 0, 5, 10, 0]) (by decide +kernel))
theorem e154_58 : mr154 S P 58 L st sh M c s = (mr154 S P 59 L (.int (nI 0) :: st) sh M c s) := propext (mv_R_iff (i := .iconst 0) (len := 1) (ax := []) (by decide +kernel))
theorem e154_59 {x : Int32} : mr154 S P 59 L (.int x :: st) sh M c s = (q_hs L 1 ∧ mr154 S P 60 (L.set 1 (some (.int x))) st sh M c s) := (propext (mv_R_iff (i := .istore_n 1) (len := 1) (ax := []) (by decide +kernel))).trans (q_st_eq (K := fun L => mr154 S P 60 L st sh M c s))
theorem e154_60 : mr154 S P 60 L st sh M c s = (q_isI (q_gv L 1) ∧ mr154 S P 61 L (q_gv L 1 :: st) sh M c s) := (propext (mv_R_iff (i := .iload_n 1) (len := 1) (ax := []) (by decide +kernel))).trans (q_ldI_eq (K := fun st => mr154 S P 61 L st sh M c s))
theorem e154_61 : mr154 S P 61 L st sh M c s = (mr154 S P 64 L (.int (nI 799) :: st) sh M c s) := propext (mv_R_iff (i := .sipush 799) (len := 3) (ax := []) (by decide +kernel))
theorem e154_64 {y : Int32} {x : Int32} : mr154 S P 64 L (.int y :: .int x :: st) sh M c s = (if y ≤ x then mr154 S P 80 L st sh M c s else mr154 S P 67 L st sh M c s) := (propext (mv_R_iff (i := .if_icmp .ge 16) (len := 3) (ax := [80]) (by decide +kernel))).trans (q_br)
theorem e154_67 : mr154 S P 67 L st sh M c s = (q_isA (q_gv L 0) ∧ mr154 S P 68 L (q_gv L 0 :: st) sh M c s) := (propext (mv_R_iff (i := .aload_n 0) (len := 1) (ax := []) (by decide +kernel))).trans (q_ldA_eq (K := fun st => mr154 S P 68 L st sh M c s))
theorem e154_68 {a : Nat} : mr154 S P 68 L (.ref a :: st) sh M c s = (mv_kgf sh M a 5 0 (mr154 S P) 71 L st c s) := propext (mv_R_iff (i := .getfield 7) (len := 3) (ax := [1025, 0, 5, 0]) (by decide +kernel))
theorem e154_71 : mr154 S P 71 L st sh M c s = (q_isI (q_gv L 1) ∧ mr154 S P 72 L (q_gv L 1 :: st) sh M c s) := (propext (mv_R_iff (i := .iload_n 1) (len := 1) (ax := []) (by decide +kernel))).trans (q_ldI_eq (K := fun st => mr154 S P 72 L st sh M c s))
theorem e154_72 : mr154 S P 72 L st sh M c s = (mr154 S P 73 L (.int (nI 0) :: st) sh M c s) := propext (mv_R_iff (i := .iconst 0) (len := 1) (ax := []) (by decide +kernel))
theorem e154_73 {x : Int32} {i : Int32} {a : Nat} : mr154 S P 73 L (.int x :: .int i :: .ref a :: st) sh M c s = (mv_kst sh M a i x (mr154 S P) 74 L st c s) := propext (mv_R_iff (i := .iastore) (len := 1) (ax := []) (by decide +kernel))
theorem e154_74 : mr154 S P 74 L st sh M c s = ((q_isI (q_gv L 1) ∧ q_hs L 1) ∧ mr154 S P 77 (L.set 1 (some (q_inc (q_gv L 1) (nI 1)))) st sh M c s) := (propext (mv_R_iff (i := .iinc 1 1) (len := 3) (ax := []) (by decide +kernel))).trans (q_inc_eq (K := fun L => mr154 S P 77 L st sh M c s))
theorem e154_77 : mr154 S P 77 L st sh M c s = (mr154 S P 60 L st sh M c s) := propext (mv_R_iff (i := .goto (-17)) (len := 3) (ax := [60]) (by decide +kernel))
theorem e154_80 : mr154 S P 80 L st sh M c s = (mr154 S P 81 L (.int (nI 0) :: st) sh M c s) := propext (mv_R_iff (i := .iconst 0) (len := 1) (ax := []) (by decide +kernel))
theorem e154_81 {x : Int32} : mr154 S P 81 L (.int x :: st) sh M c s = (q_hs L 1 ∧ mr154 S P 82 (L.set 1 (some (.int x))) st sh M c s) := (propext (mv_R_iff (i := .istore_n 1) (len := 1) (ax := []) (by decide +kernel))).trans (q_st_eq (K := fun L => mr154 S P 82 L st sh M c s))
theorem e154_82 : mr154 S P 82 L st sh M c s = (q_isI (q_gv L 1) ∧ mr154 S P 83 L (q_gv L 1 :: st) sh M c s) := (propext (mv_R_iff (i := .iload_n 1) (len := 1) (ax := []) (by decide +kernel))).trans (q_ldI_eq (K := fun st => mr154 S P 83 L st sh M c s))
theorem e154_83 : mr154 S P 83 L st sh M c s = (mr154 S P 85 L (.int (nI 6) :: st) sh M c s) := propext (mv_R_iff (i := .bipush 6) (len := 2) (ax := []) (by decide +kernel))
theorem e154_85 {y : Int32} {x : Int32} : mr154 S P 85 L (.int y :: .int x :: st) sh M c s = (if y ≤ x then mr154 S P 167 L st sh M c s else mr154 S P 88 L st sh M c s) := (propext (mv_R_iff (i := .if_icmp .ge 82) (len := 3) (ax := [167]) (by decide +kernel))).trans (q_br)
theorem e154_88 : mr154 S P 88 L st sh M c s = (q_isA (q_gv L 0) ∧ mr154 S P 89 L (q_gv L 0 :: st) sh M c s) := (propext (mv_R_iff (i := .aload_n 0) (len := 1) (ax := []) (by decide +kernel))).trans (q_ldA_eq (K := fun st => mr154 S P 89 L st sh M c s))
theorem e154_89 {a : Nat} : mr154 S P 89 L (.ref a :: st) sh M c s = (mv_kgf sh M a 5 4 (mr154 S P) 92 L st c s) := propext (mv_R_iff (i := .getfield 13) (len := 3) (ax := [1029, 0, 5, 4]) (by decide +kernel))
theorem e154_92 : mr154 S P 92 L st sh M c s = (q_isI (q_gv L 1) ∧ mr154 S P 93 L (q_gv L 1 :: st) sh M c s) := (propext (mv_R_iff (i := .iload_n 1) (len := 1) (ax := []) (by decide +kernel))).trans (q_ldI_eq (K := fun st => mr154 S P 93 L st sh M c s))
theorem e154_93 : mr154 S P 93 L st sh M c s = (q_isA (q_gv L 0) ∧ mr154 S P 94 L (q_gv L 0 :: st) sh M c s) := (propext (mv_R_iff (i := .aload_n 0) (len := 1) (ax := []) (by decide +kernel))).trans (q_ldA_eq (K := fun st => mr154 S P 94 L st sh M c s))
theorem e154_94 {a : Nat} : mr154 S P 94 L (.ref a :: st) sh M c s = (mv_kgf sh M a 5 20 (mr154 S P) 97 L st c s) := propext (mv_R_iff (i := .getfield 37) (len := 3) (ax := [1045, 0, 5, 20]) (by decide +kernel))
theorem e154_97 : mr154 S P 97 L st sh M c s = (q_isI (q_gv L 1) ∧ mr154 S P 98 L (q_gv L 1 :: st) sh M c s) := (propext (mv_R_iff (i := .iload_n 1) (len := 1) (ax := []) (by decide +kernel))).trans (q_ldI_eq (K := fun st => mr154 S P 98 L st sh M c s))
theorem e154_98 {i : Int32} {a : Nat} : mr154 S P 98 L (.int i :: .ref a :: st) sh M c s = (mv_kld sh M a i (mr154 S P) 99 L st c s) := propext (mv_R_iff (i := .iaload) (len := 1) (ax := []) (by decide +kernel))
theorem e154_99 {x : Int32} {i : Int32} {a : Nat} : mr154 S P 99 L (.int x :: .int i :: .ref a :: st) sh M c s = (mv_kst sh M a i x (mr154 S P) 100 L st c s) := propext (mv_R_iff (i := .iastore) (len := 1) (ax := []) (by decide +kernel))
theorem e154_100 : mr154 S P 100 L st sh M c s = (q_isA (q_gv L 0) ∧ mr154 S P 101 L (q_gv L 0 :: st) sh M c s) := (propext (mv_R_iff (i := .aload_n 0) (len := 1) (ax := []) (by decide +kernel))).trans (q_ldA_eq (K := fun st => mr154 S P 101 L st sh M c s))
theorem e154_101 {a : Nat} : mr154 S P 101 L (.ref a :: st) sh M c s = (mv_kgf sh M a 5 6 (mr154 S P) 104 L st c s) := propext (mv_R_iff (i := .getfield 19) (len := 3) (ax := [1031, 0, 5, 6]) (by decide +kernel))
theorem e154_104 : mr154 S P 104 L st sh M c s = (q_isI (q_gv L 1) ∧ mr154 S P 105 L (q_gv L 1 :: st) sh M c s) := (propext (mv_R_iff (i := .iload_n 1) (len := 1) (ax := []) (by decide +kernel))).trans (q_ldI_eq (K := fun st => mr154 S P 105 L st sh M c s))
theorem e154_105 : mr154 S P 105 L st sh M c s = (q_isA (q_gv L 0) ∧ mr154 S P 106 L (q_gv L 0 :: st) sh M c s) := (propext (mv_R_iff (i := .aload_n 0) (len := 1) (ax := []) (by decide +kernel))).trans (q_ldA_eq (K := fun st => mr154 S P 106 L st sh M c s))
theorem e154_106 {a : Nat} : mr154 S P 106 L (.ref a :: st) sh M c s = (mv_kgf sh M a 5 21 (mr154 S P) 109 L st c s) := propext (mv_R_iff (i := .getfield 40) (len := 3) (ax := [1046, 0, 5, 21]) (by decide +kernel))
theorem e154_109 : mr154 S P 109 L st sh M c s = (q_isI (q_gv L 1) ∧ mr154 S P 110 L (q_gv L 1 :: st) sh M c s) := (propext (mv_R_iff (i := .iload_n 1) (len := 1) (ax := []) (by decide +kernel))).trans (q_ldI_eq (K := fun st => mr154 S P 110 L st sh M c s))
theorem e154_110 {i : Int32} {a : Nat} : mr154 S P 110 L (.int i :: .ref a :: st) sh M c s = (mv_kld sh M a i (mr154 S P) 111 L st c s) := propext (mv_R_iff (i := .iaload) (len := 1) (ax := []) (by decide +kernel))
theorem e154_111 {x : Int32} {i : Int32} {a : Nat} : mr154 S P 111 L (.int x :: .int i :: .ref a :: st) sh M c s = (mv_kst sh M a i x (mr154 S P) 112 L st c s) := propext (mv_R_iff (i := .iastore) (len := 1) (ax := []) (by decide +kernel))
theorem e154_112 : mr154 S P 112 L st sh M c s = (q_isA (q_gv L 0) ∧ mr154 S P 113 L (q_gv L 0 :: st) sh M c s) := (propext (mv_R_iff (i := .aload_n 0) (len := 1) (ax := []) (by decide +kernel))).trans (q_ldA_eq (K := fun st => mr154 S P 113 L st sh M c s))
theorem e154_113 {a : Nat} : mr154 S P 113 L (.ref a :: st) sh M c s = (mv_kgf sh M a 5 0 (mr154 S P) 116 L st c s) := propext (mv_R_iff (i := .getfield 7) (len := 3) (ax := [1025, 0, 5, 0]) (by decide +kernel))
theorem e154_116 : mr154 S P 116 L st sh M c s = (mr154 S P 117 L (.int (nI 0) :: st) sh M c s) := propext (mv_R_iff (i := .iconst 0) (len := 1) (ax := []) (by decide +kernel))
theorem e154_117 : mr154 S P 117 L st sh M c s = (q_isI (q_gv L 1) ∧ mr154 S P 118 L (q_gv L 1 :: st) sh M c s) := (propext (mv_R_iff (i := .iload_n 1) (len := 1) (ax := []) (by decide +kernel))).trans (q_ldI_eq (K := fun st => mr154 S P 118 L st sh M c s))
theorem e154_118 {y : Int32} {x : Int32} : mr154 S P 118 L (.int y :: .int x :: st) sh M c s = (mr154 S P 119 L (.int (x + y) :: st) sh M c s) := propext (mv_R_iff (i := .iadd) (len := 1) (ax := []) (by decide +kernel))
theorem e154_119 : mr154 S P 119 L st sh M c s = (q_isI (q_gv L 1) ∧ mr154 S P 120 L (q_gv L 1 :: st) sh M c s) := (propext (mv_R_iff (i := .iload_n 1) (len := 1) (ax := []) (by decide +kernel))).trans (q_ldI_eq (K := fun st => mr154 S P 120 L st sh M c s))
theorem e154_120 : mr154 S P 120 L st sh M c s = (q_isA (q_gv L 0) ∧ mr154 S P 121 L (q_gv L 0 :: st) sh M c s) := (propext (mv_R_iff (i := .aload_n 0) (len := 1) (ax := []) (by decide +kernel))).trans (q_ldA_eq (K := fun st => mr154 S P 121 L st sh M c s))
theorem e154_121 {a : Nat} : mr154 S P 121 L (.ref a :: st) sh M c s = (mv_kgf sh M a 5 3 (mr154 S P) 124 L st c s) := propext (mv_R_iff (i := .getfield 151) (len := 3) (ax := [1028, 0, 5, 3]) (by decide +kernel))
theorem e154_124 {y : Int32} {x : Int32} : mr154 S P 124 L (.int y :: .int x :: st) sh M c s = (if y ≤ x then mr154 S P 136 L st sh M c s else mr154 S P 127 L st sh M c s) := (propext (mv_R_iff (i := .if_icmp .ge 12) (len := 3) (ax := [136]) (by decide +kernel))).trans (q_br)
theorem e154_127 : mr154 S P 127 L st sh M c s = (q_isA (q_gv L 0) ∧ mr154 S P 128 L (q_gv L 0 :: st) sh M c s) := (propext (mv_R_iff (i := .aload_n 0) (len := 1) (ax := []) (by decide +kernel))).trans (q_ldA_eq (K := fun st => mr154 S P 128 L st sh M c s))
theorem e154_128 {a : Nat} : mr154 S P 128 L (.ref a :: st) sh M c s = (mv_kgf sh M a 5 21 (mr154 S P) 131 L st c s) := propext (mv_R_iff (i := .getfield 40) (len := 3) (ax := [1046, 0, 5, 21]) (by decide +kernel))
theorem e154_131 : mr154 S P 131 L st sh M c s = (q_isI (q_gv L 1) ∧ mr154 S P 132 L (q_gv L 1 :: st) sh M c s) := (propext (mv_R_iff (i := .iload_n 1) (len := 1) (ax := []) (by decide +kernel))).trans (q_ldI_eq (K := fun st => mr154 S P 132 L st sh M c s))
theorem e154_132 {i : Int32} {a : Nat} : mr154 S P 132 L (.int i :: .ref a :: st) sh M c s = (mv_kld sh M a i (mr154 S P) 133 L st c s) := propext (mv_R_iff (i := .iaload) (len := 1) (ax := []) (by decide +kernel))
theorem e154_133 : mr154 S P 133 L st sh M c s = (mr154 S P 137 L st sh M c s) := propext (mv_R_iff (i := .goto 4) (len := 3) (ax := [137]) (by decide +kernel))
theorem e154_136 : mr154 S P 136 L st sh M c s = (mr154 S P 137 L (.int (nI 0) :: st) sh M c s) := propext (mv_R_iff (i := .iconst 0) (len := 1) (ax := []) (by decide +kernel))
theorem e154_137 {x : Int32} {i : Int32} {a : Nat} : mr154 S P 137 L (.int x :: .int i :: .ref a :: st) sh M c s = (mv_kst sh M a i x (mr154 S P) 138 L st c s) := propext (mv_R_iff (i := .iastore) (len := 1) (ax := []) (by decide +kernel))
theorem e154_138 : mr154 S P 138 L st sh M c s = (q_isA (q_gv L 0) ∧ mr154 S P 139 L (q_gv L 0 :: st) sh M c s) := (propext (mv_R_iff (i := .aload_n 0) (len := 1) (ax := []) (by decide +kernel))).trans (q_ldA_eq (K := fun st => mr154 S P 139 L st sh M c s))
theorem e154_139 {a : Nat} : mr154 S P 139 L (.ref a :: st) sh M c s = (mv_kgf sh M a 5 0 (mr154 S P) 142 L st c s) := propext (mv_R_iff (i := .getfield 7) (len := 3) (ax := [1025, 0, 5, 0]) (by decide +kernel))
theorem e154_142 : mr154 S P 142 L st sh M c s = (mr154 S P 144 L (.int (nI 24) :: st) sh M c s) := propext (mv_R_iff (i := .bipush 24) (len := 2) (ax := []) (by decide +kernel))
theorem e154_144 : mr154 S P 144 L st sh M c s = (q_isI (q_gv L 1) ∧ mr154 S P 145 L (q_gv L 1 :: st) sh M c s) := (propext (mv_R_iff (i := .iload_n 1) (len := 1) (ax := []) (by decide +kernel))).trans (q_ldI_eq (K := fun st => mr154 S P 145 L st sh M c s))
theorem e154_145 {y : Int32} {x : Int32} : mr154 S P 145 L (.int y :: .int x :: st) sh M c s = (mr154 S P 146 L (.int (x + y) :: st) sh M c s) := propext (mv_R_iff (i := .iadd) (len := 1) (ax := []) (by decide +kernel))
theorem e154_146 : mr154 S P 146 L st sh M c s = (mr154 S P 148 L (.int (Int32.ofInt (-4)) :: st) sh M c s) := (propext (mv_R_iff (i := .bipush (-4)) (len := 2) (ax := []) (by decide +kernel))).trans (congrArg (fun z => mr154 S P 148 L (.int z :: st) sh M c s) (by decide : (Int8.ofInt (-4)).toInt32 = Int32.ofInt (-4)))
theorem e154_148 {x : Int32} {i : Int32} {a : Nat} : mr154 S P 148 L (.int x :: .int i :: .ref a :: st) sh M c s = (mv_kst sh M a i x (mr154 S P) 149 L st c s) := propext (mv_R_iff (i := .iastore) (len := 1) (ax := []) (by decide +kernel))
theorem e154_149 : mr154 S P 149 L st sh M c s = (q_isA (q_gv L 0) ∧ mr154 S P 150 L (q_gv L 0 :: st) sh M c s) := (propext (mv_R_iff (i := .aload_n 0) (len := 1) (ax := []) (by decide +kernel))).trans (q_ldA_eq (K := fun st => mr154 S P 150 L st sh M c s))
theorem e154_150 {a : Nat} : mr154 S P 150 L (.ref a :: st) sh M c s = (mv_kgf sh M a 5 8 (mr154 S P) 153 L st c s) := propext (mv_R_iff (i := .getfield 22) (len := 3) (ax := [1033, 0, 5, 8]) (by decide +kernel))
theorem e154_153 : mr154 S P 153 L st sh M c s = (q_isI (q_gv L 1) ∧ mr154 S P 154 L (q_gv L 1 :: st) sh M c s) := (propext (mv_R_iff (i := .iload_n 1) (len := 1) (ax := []) (by decide +kernel))).trans (q_ldI_eq (K := fun st => mr154 S P 154 L st sh M c s))
theorem e154_154 : mr154 S P 154 L st sh M c s = (q_isA (q_gv L 0) ∧ mr154 S P 155 L (q_gv L 0 :: st) sh M c s) := (propext (mv_R_iff (i := .aload_n 0) (len := 1) (ax := []) (by decide +kernel))).trans (q_ldA_eq (K := fun st => mr154 S P 155 L st sh M c s))
theorem e154_155 {a : Nat} : mr154 S P 155 L (.ref a :: st) sh M c s = (mv_kgf sh M a 5 24 (mr154 S P) 158 L st c s) := propext (mv_R_iff (i := .getfield 46) (len := 3) (ax := [1049, 0, 5, 24]) (by decide +kernel))
theorem e154_158 : mr154 S P 158 L st sh M c s = (q_isI (q_gv L 1) ∧ mr154 S P 159 L (q_gv L 1 :: st) sh M c s) := (propext (mv_R_iff (i := .iload_n 1) (len := 1) (ax := []) (by decide +kernel))).trans (q_ldI_eq (K := fun st => mr154 S P 159 L st sh M c s))
theorem e154_159 {i : Int32} {a : Nat} : mr154 S P 159 L (.int i :: .ref a :: st) sh M c s = (mv_kld sh M a i (mr154 S P) 160 L st c s) := propext (mv_R_iff (i := .iaload) (len := 1) (ax := []) (by decide +kernel))
theorem e154_160 {x : Int32} {i : Int32} {a : Nat} : mr154 S P 160 L (.int x :: .int i :: .ref a :: st) sh M c s = (mv_kst sh M a i x (mr154 S P) 161 L st c s) := propext (mv_R_iff (i := .iastore) (len := 1) (ax := []) (by decide +kernel))
theorem e154_161 : mr154 S P 161 L st sh M c s = ((q_isI (q_gv L 1) ∧ q_hs L 1) ∧ mr154 S P 164 (L.set 1 (some (q_inc (q_gv L 1) (nI 1)))) st sh M c s) := (propext (mv_R_iff (i := .iinc 1 1) (len := 3) (ax := []) (by decide +kernel))).trans (q_inc_eq (K := fun L => mr154 S P 164 L st sh M c s))
theorem e154_164 : mr154 S P 164 L st sh M c s = (mr154 S P 82 L st sh M c s) := propext (mv_R_iff (i := .goto (-82)) (len := 3) (ax := [82]) (by decide +kernel))
theorem e154_167 : mr154 S P 167 L st sh M c s = (mr154 S P 168 L (.int (nI 0) :: st) sh M c s) := propext (mv_R_iff (i := .iconst 0) (len := 1) (ax := []) (by decide +kernel))
theorem e154_168 {x : Int32} : mr154 S P 168 L (.int x :: st) sh M c s = (q_hs L 1 ∧ mr154 S P 169 (L.set 1 (some (.int x))) st sh M c s) := (propext (mv_R_iff (i := .istore_n 1) (len := 1) (ax := []) (by decide +kernel))).trans (q_st_eq (K := fun L => mr154 S P 169 L st sh M c s))
theorem e154_169 : mr154 S P 169 L st sh M c s = (q_isI (q_gv L 1) ∧ mr154 S P 170 L (q_gv L 1 :: st) sh M c s) := (propext (mv_R_iff (i := .iload_n 1) (len := 1) (ax := []) (by decide +kernel))).trans (q_ldI_eq (K := fun st => mr154 S P 170 L st sh M c s))
theorem e154_170 : mr154 S P 170 L st sh M c s = (mr154 S P 172 L (.int (nI 24) :: st) sh M c s) := propext (mv_R_iff (i := .bipush 24) (len := 2) (ax := []) (by decide +kernel))
theorem e154_172 {y : Int32} {x : Int32} : mr154 S P 172 L (.int y :: .int x :: st) sh M c s = (if y ≤ x then mr154 S P 193 L st sh M c s else mr154 S P 175 L st sh M c s) := (propext (mv_R_iff (i := .if_icmp .ge 21) (len := 3) (ax := [193]) (by decide +kernel))).trans (q_br)
theorem e154_175 : mr154 S P 175 L st sh M c s = (q_isA (q_gv L 0) ∧ mr154 S P 176 L (q_gv L 0 :: st) sh M c s) := (propext (mv_R_iff (i := .aload_n 0) (len := 1) (ax := []) (by decide +kernel))).trans (q_ldA_eq (K := fun st => mr154 S P 176 L st sh M c s))
theorem e154_176 {a : Nat} : mr154 S P 176 L (.ref a :: st) sh M c s = (mv_kgf sh M a 5 5 (mr154 S P) 179 L st c s) := propext (mv_R_iff (i := .getfield 16) (len := 3) (ax := [1030, 0, 5, 5]) (by decide +kernel))
theorem e154_179 : mr154 S P 179 L st sh M c s = (q_isI (q_gv L 1) ∧ mr154 S P 180 L (q_gv L 1 :: st) sh M c s) := (propext (mv_R_iff (i := .iload_n 1) (len := 1) (ax := []) (by decide +kernel))).trans (q_ldI_eq (K := fun st => mr154 S P 180 L st sh M c s))
theorem e154_180 : mr154 S P 180 L st sh M c s = (q_isA (q_gv L 0) ∧ mr154 S P 181 L (q_gv L 0 :: st) sh M c s) := (propext (mv_R_iff (i := .aload_n 0) (len := 1) (ax := []) (by decide +kernel))).trans (q_ldA_eq (K := fun st => mr154 S P 181 L st sh M c s))
theorem e154_181 {a : Nat} : mr154 S P 181 L (.ref a :: st) sh M c s = (mv_kgf sh M a 5 22 (mr154 S P) 184 L st c s) := propext (mv_R_iff (i := .getfield 43) (len := 3) (ax := [1047, 0, 5, 22]) (by decide +kernel))
theorem e154_184 : mr154 S P 184 L st sh M c s = (q_isI (q_gv L 1) ∧ mr154 S P 185 L (q_gv L 1 :: st) sh M c s) := (propext (mv_R_iff (i := .iload_n 1) (len := 1) (ax := []) (by decide +kernel))).trans (q_ldI_eq (K := fun st => mr154 S P 185 L st sh M c s))
theorem e154_185 {i : Int32} {a : Nat} : mr154 S P 185 L (.int i :: .ref a :: st) sh M c s = (mv_kld sh M a i (mr154 S P) 186 L st c s) := propext (mv_R_iff (i := .iaload) (len := 1) (ax := []) (by decide +kernel))
theorem e154_186 {x : Int32} {i : Int32} {a : Nat} : mr154 S P 186 L (.int x :: .int i :: .ref a :: st) sh M c s = (mv_kst sh M a i x (mr154 S P) 187 L st c s) := propext (mv_R_iff (i := .iastore) (len := 1) (ax := []) (by decide +kernel))
theorem e154_187 : mr154 S P 187 L st sh M c s = ((q_isI (q_gv L 1) ∧ q_hs L 1) ∧ mr154 S P 190 (L.set 1 (some (q_inc (q_gv L 1) (nI 1)))) st sh M c s) := (propext (mv_R_iff (i := .iinc 1 1) (len := 3) (ax := []) (by decide +kernel))).trans (q_inc_eq (K := fun L => mr154 S P 190 L st sh M c s))
theorem e154_190 : mr154 S P 190 L st sh M c s = (mr154 S P 169 L st sh M c s) := propext (mv_R_iff (i := .goto (-21)) (len := 3) (ax := [169]) (by decide +kernel))
theorem e154_193 : mr154 S P 193 L st sh M c s = (mr154 S P 194 L (.int (nI 0) :: st) sh M c s) := propext (mv_R_iff (i := .iconst 0) (len := 1) (ax := []) (by decide +kernel))
theorem e154_194 {x : Int32} : mr154 S P 194 L (.int x :: st) sh M c s = (q_hs L 1 ∧ mr154 S P 195 (L.set 1 (some (.int x))) st sh M c s) := (propext (mv_R_iff (i := .istore_n 1) (len := 1) (ax := []) (by decide +kernel))).trans (q_st_eq (K := fun L => mr154 S P 195 L st sh M c s))
theorem e154_195 : mr154 S P 195 L st sh M c s = (q_isI (q_gv L 1) ∧ mr154 S P 196 L (q_gv L 1 :: st) sh M c s) := (propext (mv_R_iff (i := .iload_n 1) (len := 1) (ax := []) (by decide +kernel))).trans (q_ldI_eq (K := fun st => mr154 S P 196 L st sh M c s))
theorem e154_196 : mr154 S P 196 L st sh M c s = (mr154 S P 198 L (.int (nI 8) :: st) sh M c s) := propext (mv_R_iff (i := .bipush 8) (len := 2) (ax := []) (by decide +kernel))
theorem e154_198 {y : Int32} {x : Int32} : mr154 S P 198 L (.int y :: .int x :: st) sh M c s = (if y ≤ x then mr154 S P 219 L st sh M c s else mr154 S P 201 L st sh M c s) := (propext (mv_R_iff (i := .if_icmp .ge 21) (len := 3) (ax := [219]) (by decide +kernel))).trans (q_br)
theorem e154_201 : mr154 S P 201 L st sh M c s = (q_isA (q_gv L 0) ∧ mr154 S P 202 L (q_gv L 0 :: st) sh M c s) := (propext (mv_R_iff (i := .aload_n 0) (len := 1) (ax := []) (by decide +kernel))).trans (q_ldA_eq (K := fun st => mr154 S P 202 L st sh M c s))
theorem e154_202 {a : Nat} : mr154 S P 202 L (.ref a :: st) sh M c s = (mv_kgf sh M a 5 11 (mr154 S P) 205 L st c s) := propext (mv_R_iff (i := .getfield 25) (len := 3) (ax := [1036, 0, 5, 11]) (by decide +kernel))
theorem e154_205 : mr154 S P 205 L st sh M c s = (q_isI (q_gv L 1) ∧ mr154 S P 206 L (q_gv L 1 :: st) sh M c s) := (propext (mv_R_iff (i := .iload_n 1) (len := 1) (ax := []) (by decide +kernel))).trans (q_ldI_eq (K := fun st => mr154 S P 206 L st sh M c s))
theorem e154_206 : mr154 S P 206 L st sh M c s = (q_isA (q_gv L 0) ∧ mr154 S P 207 L (q_gv L 0 :: st) sh M c s) := (propext (mv_R_iff (i := .aload_n 0) (len := 1) (ax := []) (by decide +kernel))).trans (q_ldA_eq (K := fun st => mr154 S P 207 L st sh M c s))
theorem e154_207 {a : Nat} : mr154 S P 207 L (.ref a :: st) sh M c s = (mv_kgf sh M a 5 27 (mr154 S P) 210 L st c s) := propext (mv_R_iff (i := .getfield 49) (len := 3) (ax := [1052, 0, 5, 27]) (by decide +kernel))
theorem e154_210 : mr154 S P 210 L st sh M c s = (q_isI (q_gv L 1) ∧ mr154 S P 211 L (q_gv L 1 :: st) sh M c s) := (propext (mv_R_iff (i := .iload_n 1) (len := 1) (ax := []) (by decide +kernel))).trans (q_ldI_eq (K := fun st => mr154 S P 211 L st sh M c s))
theorem e154_211 {i : Int32} {a : Nat} : mr154 S P 211 L (.int i :: .ref a :: st) sh M c s = (mv_kld sh M a i (mr154 S P) 212 L st c s) := propext (mv_R_iff (i := .iaload) (len := 1) (ax := []) (by decide +kernel))
theorem e154_212 {x : Int32} {i : Int32} {a : Nat} : mr154 S P 212 L (.int x :: .int i :: .ref a :: st) sh M c s = (mv_kst sh M a i x (mr154 S P) 213 L st c s) := propext (mv_R_iff (i := .iastore) (len := 1) (ax := []) (by decide +kernel))
theorem e154_213 : mr154 S P 213 L st sh M c s = ((q_isI (q_gv L 1) ∧ q_hs L 1) ∧ mr154 S P 216 (L.set 1 (some (q_inc (q_gv L 1) (nI 1)))) st sh M c s) := (propext (mv_R_iff (i := .iinc 1 1) (len := 3) (ax := []) (by decide +kernel))).trans (q_inc_eq (K := fun L => mr154 S P 216 L st sh M c s))
theorem e154_216 : mr154 S P 216 L st sh M c s = (mr154 S P 195 L st sh M c s) := propext (mv_R_iff (i := .goto (-21)) (len := 3) (ax := [195]) (by decide +kernel))
theorem e154_219 : mr154 S P 219 L st sh M c s = (q_isA (q_gv L 0) ∧ mr154 S P 220 L (q_gv L 0 :: st) sh M c s) := (propext (mv_R_iff (i := .aload_n 0) (len := 1) (ax := []) (by decide +kernel))).trans (q_ldA_eq (K := fun st => mr154 S P 220 L st sh M c s))
theorem e154_220 : mr154 S P 220 L st sh M c s = (mr154 S P 221 L (.int (nI 0) :: st) sh M c s) := propext (mv_R_iff (i := .iconst 0) (len := 1) (ax := []) (by decide +kernel))
theorem e154_221 {x : Int32} {a : Nat} : mr154 S P 221 L (.int x :: .ref a :: st) sh M c s = (True ∧ mv_kpf sh M a 5 1 x (mr154 S P) 224 L st c s) := propext (mv_R_iff (i := .putfield 163) (len := 3) (ax := [1026, 0, 5, 1, 0]) (by decide +kernel))
theorem e154_224 : mr154 S P 224 L st sh M c s = (q_isA (q_gv L 0) ∧ mr154 S P 225 L (q_gv L 0 :: st) sh M c s) := (propext (mv_R_iff (i := .aload_n 0) (len := 1) (ax := []) (by decide +kernel))).trans (q_ldA_eq (K := fun st => mr154 S P 225 L st sh M c s))
theorem e154_225 : mr154 S P 225 L st sh M c s = (mr154 S P 226 L (.int (nI 0) :: st) sh M c s) := propext (mv_R_iff (i := .iconst 0) (len := 1) (ax := []) (by decide +kernel))
theorem e154_226 {x : Int32} {a : Nat} : mr154 S P 226 L (.int x :: .ref a :: st) sh M c s = (True ∧ mv_kpf sh M a 5 2 x (mr154 S P) 229 L st c s) := propext (mv_R_iff (i := .putfield 166) (len := 3) (ax := [1027, 0, 5, 2, 0]) (by decide +kernel))
theorem e154_229 : mr154 S P 229 L st sh M c s = (q_isA (q_gv L 0) ∧ mr154 S P 230 L (q_gv L 0 :: st) sh M c s) := (propext (mv_R_iff (i := .aload_n 0) (len := 1) (ax := []) (by decide +kernel))).trans (q_ldA_eq (K := fun st => mr154 S P 230 L st sh M c s))
theorem e154_230 : mr154 S P 230 L st sh M c s = (mr154 S P 231 L (.int (nI 0) :: st) sh M c s) := propext (mv_R_iff (i := .iconst 0) (len := 1) (ax := []) (by decide +kernel))
theorem e154_231 {x : Int32} {a : Nat} : mr154 S P 231 L (.int x :: .ref a :: st) sh M c s = (True ∧ mv_kpf sh M a 5 14 x (mr154 S P) 234 L st c s) := propext (mv_R_iff (i := .putfield 169) (len := 3) (ax := [1039, 0, 5, 14, 0]) (by decide +kernel))
theorem e154_234 : mr154 S P 234 L st sh M c s = (q_isA (q_gv L 0) ∧ mr154 S P 235 L (q_gv L 0 :: st) sh M c s) := (propext (mv_R_iff (i := .aload_n 0) (len := 1) (ax := []) (by decide +kernel))).trans (q_ldA_eq (K := fun st => mr154 S P 235 L st sh M c s))
theorem e154_235 {a : Nat} : mr154 S P 235 L (.ref a :: st) sh M c s = (mv_kgf sh M a 5 3 (mr154 S P) 238 L st c s) := propext (mv_R_iff (i := .getfield 151) (len := 3) (ax := [1028, 0, 5, 3]) (by decide +kernel))
theorem e154_238 {x : Int32} : mr154 S P 238 L [.int x] sh M c s = (mv_nr 0 x ∧ P (some (.int x)) sh M) := propext (mv_R_iff (i := .ireturn) (len := 1) (ax := [0]) (by decide +kernel))
-- 156: TurnedTabletsModel.copyLoom(II)V
def mk156 : mv_Cd := [
  (0, .iconst 0, 1, []),
  (1, .istore_n 3, 1, []),
  (2, .iload_n 3, 1, []),
  (3, .sipush 799, 3, []),
  (6, .if_icmp .ge 25, 3, [31]),
  (9, .aload_n 0, 1, []),
  (10, .getfield 7, 3, [1025, 0, 5, 0]),
  (13, .iload_n 2, 1, []),
  (14, .iload_n 3, 1, []),
  (15, .iadd, 1, []),
  (16, .aload_n 0, 1, []),
  (17, .getfield 7, 3, [1025, 0, 5, 0]),
  (20, .iload_n 1, 1, []),
  (21, .iload_n 3, 1, []),
  (22, .iadd, 1, []),
  (23, .iaload, 1, []),
  (24, .iastore, 1, []),
  (25, .iinc 3 1, 3, []),
  (28, .goto (-26), 3, [2]),
  (31, .return_, 1, [])]
def mr156 (S : Nat → mv_Sp) (P : mv_Post) : mv_Kt := mv_R mv_DF mk156 S (0, 0) P
theorem e156_0 : mr156 S P 0 L st sh M c s = (mr156 S P 1 L (.int (nI 0) :: st) sh M c s) := propext (mv_R_iff (i := .iconst 0) (len := 1) (ax := []) (by decide +kernel))
theorem e156_1 {x : Int32} : mr156 S P 1 L (.int x :: st) sh M c s = (q_hs L 3 ∧ mr156 S P 2 (L.set 3 (some (.int x))) st sh M c s) := (propext (mv_R_iff (i := .istore_n 3) (len := 1) (ax := []) (by decide +kernel))).trans (q_st_eq (K := fun L => mr156 S P 2 L st sh M c s))
theorem e156_2 : mr156 S P 2 L st sh M c s = (q_isI (q_gv L 3) ∧ mr156 S P 3 L (q_gv L 3 :: st) sh M c s) := (propext (mv_R_iff (i := .iload_n 3) (len := 1) (ax := []) (by decide +kernel))).trans (q_ldI_eq (K := fun st => mr156 S P 3 L st sh M c s))
theorem e156_3 : mr156 S P 3 L st sh M c s = (mr156 S P 6 L (.int (nI 799) :: st) sh M c s) := propext (mv_R_iff (i := .sipush 799) (len := 3) (ax := []) (by decide +kernel))
theorem e156_6 {y : Int32} {x : Int32} : mr156 S P 6 L (.int y :: .int x :: st) sh M c s = (if y ≤ x then mr156 S P 31 L st sh M c s else mr156 S P 9 L st sh M c s) := (propext (mv_R_iff (i := .if_icmp .ge 25) (len := 3) (ax := [31]) (by decide +kernel))).trans (q_br)
theorem e156_9 : mr156 S P 9 L st sh M c s = (q_isA (q_gv L 0) ∧ mr156 S P 10 L (q_gv L 0 :: st) sh M c s) := (propext (mv_R_iff (i := .aload_n 0) (len := 1) (ax := []) (by decide +kernel))).trans (q_ldA_eq (K := fun st => mr156 S P 10 L st sh M c s))
theorem e156_10 {a : Nat} : mr156 S P 10 L (.ref a :: st) sh M c s = (mv_kgf sh M a 5 0 (mr156 S P) 13 L st c s) := propext (mv_R_iff (i := .getfield 7) (len := 3) (ax := [1025, 0, 5, 0]) (by decide +kernel))
theorem e156_13 : mr156 S P 13 L st sh M c s = (q_isI (q_gv L 2) ∧ mr156 S P 14 L (q_gv L 2 :: st) sh M c s) := (propext (mv_R_iff (i := .iload_n 2) (len := 1) (ax := []) (by decide +kernel))).trans (q_ldI_eq (K := fun st => mr156 S P 14 L st sh M c s))
theorem e156_14 : mr156 S P 14 L st sh M c s = (q_isI (q_gv L 3) ∧ mr156 S P 15 L (q_gv L 3 :: st) sh M c s) := (propext (mv_R_iff (i := .iload_n 3) (len := 1) (ax := []) (by decide +kernel))).trans (q_ldI_eq (K := fun st => mr156 S P 15 L st sh M c s))
theorem e156_15 {y : Int32} {x : Int32} : mr156 S P 15 L (.int y :: .int x :: st) sh M c s = (mr156 S P 16 L (.int (x + y) :: st) sh M c s) := propext (mv_R_iff (i := .iadd) (len := 1) (ax := []) (by decide +kernel))
theorem e156_16 : mr156 S P 16 L st sh M c s = (q_isA (q_gv L 0) ∧ mr156 S P 17 L (q_gv L 0 :: st) sh M c s) := (propext (mv_R_iff (i := .aload_n 0) (len := 1) (ax := []) (by decide +kernel))).trans (q_ldA_eq (K := fun st => mr156 S P 17 L st sh M c s))
theorem e156_17 {a : Nat} : mr156 S P 17 L (.ref a :: st) sh M c s = (mv_kgf sh M a 5 0 (mr156 S P) 20 L st c s) := propext (mv_R_iff (i := .getfield 7) (len := 3) (ax := [1025, 0, 5, 0]) (by decide +kernel))
theorem e156_20 : mr156 S P 20 L st sh M c s = (q_isI (q_gv L 1) ∧ mr156 S P 21 L (q_gv L 1 :: st) sh M c s) := (propext (mv_R_iff (i := .iload_n 1) (len := 1) (ax := []) (by decide +kernel))).trans (q_ldI_eq (K := fun st => mr156 S P 21 L st sh M c s))
theorem e156_21 : mr156 S P 21 L st sh M c s = (q_isI (q_gv L 3) ∧ mr156 S P 22 L (q_gv L 3 :: st) sh M c s) := (propext (mv_R_iff (i := .iload_n 3) (len := 1) (ax := []) (by decide +kernel))).trans (q_ldI_eq (K := fun st => mr156 S P 22 L st sh M c s))
theorem e156_22 {y : Int32} {x : Int32} : mr156 S P 22 L (.int y :: .int x :: st) sh M c s = (mr156 S P 23 L (.int (x + y) :: st) sh M c s) := propext (mv_R_iff (i := .iadd) (len := 1) (ax := []) (by decide +kernel))
theorem e156_23 {i : Int32} {a : Nat} : mr156 S P 23 L (.int i :: .ref a :: st) sh M c s = (mv_kld sh M a i (mr156 S P) 24 L st c s) := propext (mv_R_iff (i := .iaload) (len := 1) (ax := []) (by decide +kernel))
theorem e156_24 {x : Int32} {i : Int32} {a : Nat} : mr156 S P 24 L (.int x :: .int i :: .ref a :: st) sh M c s = (mv_kst sh M a i x (mr156 S P) 25 L st c s) := propext (mv_R_iff (i := .iastore) (len := 1) (ax := []) (by decide +kernel))
theorem e156_25 : mr156 S P 25 L st sh M c s = ((q_isI (q_gv L 3) ∧ q_hs L 3) ∧ mr156 S P 28 (L.set 3 (some (q_inc (q_gv L 3) (nI 1)))) st sh M c s) := (propext (mv_R_iff (i := .iinc 3 1) (len := 3) (ax := []) (by decide +kernel))).trans (q_inc_eq (K := fun L => mr156 S P 28 L st sh M c s))
theorem e156_28 : mr156 S P 28 L st sh M c s = (mr156 S P 2 L st sh M c s) := propext (mv_R_iff (i := .goto (-26)) (len := 3) (ax := [2]) (by decide +kernel))
theorem e156_31 : mr156 S P 31 L [] sh M c s = (P none sh M) := propext (mv_R_iff (i := .return_) (len := 1) (ax := []) (by decide +kernel))
-- 157: TurnedTabletsModel.keepPast()V
def mk157 : mv_Cd := [
  (0, .aload_n 0, 1, []),
  (1, .getfield 163, 3, [1026, 0, 5, 1]),
  (4, .bipush 8, 2, []),
  (6, .if_icmp .ne 48, 3, [54]),
  (9, .iconst 0, 1, []),
  (10, .istore_n 1, 1, []),
  (11, .iload_n 1, 1, []),
  (12, .sipush 5593, 3, []),
  (15, .if_icmp .ge 29, 3, [44]),
  (18, .aload_n 0, 1, []),
  (19, .getfield 7, 3, [1025, 0, 5, 0]),
  (22, .sipush 799, 3, []),
  (25, .iload_n 1, 1, []),
  (26, .iadd, 1, []),
  (27, .aload_n 0, 1, []),
  (28, .getfield 7, 3, [1025, 0, 5, 0]),
  (31, .sipush 1598, 3, []),
  (34, .iload_n 1, 1, []),
  (35, .iadd, 1, []),
  (36, .iaload, 1, []),
  (37, .iastore, 1, []),
  (38, .iinc 1 1, 3, []),
  (41, .goto (-30), 3, [11]),
  (44, .aload_n 0, 1, []),
  (45, .dup, 1, []),
  (46, .getfield 163, 3, [1026, 0, 5, 1]),
  (49, .iconst 1, 1, []),
  (50, .isub, 1, []),
  (51, .putfield 163, 3, [1026, 0, 5, 1, 0]),
  (54, .aload_n 0, 1, []),
  (55, .iconst 0, 1, []),
  (56, .sipush 799, 3, []),
  (59, .sipush 799, 3, []),
  (62, .aload_n 0, 1, []),
  (63, .getfield 163, 3, [1026, 0, 5, 1]),
  (66, .imul, 1, []),
  (67, .iadd, 1, []),
  (68, .invokevirtual 205, 3, [0, 156, 3, 5, 0, 0, 0, 1215, 1217, 85, 119, 1218]),
  (71, .aload_n 0, 1, []),
  (72, .dup, 1, []),
  (73, .getfield 163, 3, [1026, 0, 5, 1]),
  (76, .iconst 1, 1, []),
  (77, .iadd, 1, []),
  (78, .putfield 163, 3, [1026, 0, 5, 1, 0]),
  (81, .return_, 1, [])]
def mr157 (S : Nat → mv_Sp) (P : mv_Post) : mv_Kt := mv_R mv_DF mk157 S (0, 0) P
theorem e157_0 : mr157 S P 0 L st sh M c s = (q_isA (q_gv L 0) ∧ mr157 S P 1 L (q_gv L 0 :: st) sh M c s) := (propext (mv_R_iff (i := .aload_n 0) (len := 1) (ax := []) (by decide +kernel))).trans (q_ldA_eq (K := fun st => mr157 S P 1 L st sh M c s))
theorem e157_1 {a : Nat} : mr157 S P 1 L (.ref a :: st) sh M c s = (mv_kgf sh M a 5 1 (mr157 S P) 4 L st c s) := propext (mv_R_iff (i := .getfield 163) (len := 3) (ax := [1026, 0, 5, 1]) (by decide +kernel))
theorem e157_4 : mr157 S P 4 L st sh M c s = (mr157 S P 6 L (.int (nI 8) :: st) sh M c s) := propext (mv_R_iff (i := .bipush 8) (len := 2) (ax := []) (by decide +kernel))
theorem e157_6 {y : Int32} {x : Int32} : mr157 S P 6 L (.int y :: .int x :: st) sh M c s = (if x = y then mr157 S P 9 L st sh M c s else mr157 S P 54 L st sh M c s) := (propext (mv_R_iff (i := .if_icmp .ne 48) (len := 3) (ax := [54]) (by decide +kernel))).trans (q_br')
theorem e157_9 : mr157 S P 9 L st sh M c s = (mr157 S P 10 L (.int (nI 0) :: st) sh M c s) := propext (mv_R_iff (i := .iconst 0) (len := 1) (ax := []) (by decide +kernel))
theorem e157_10 {x : Int32} : mr157 S P 10 L (.int x :: st) sh M c s = (q_hs L 1 ∧ mr157 S P 11 (L.set 1 (some (.int x))) st sh M c s) := (propext (mv_R_iff (i := .istore_n 1) (len := 1) (ax := []) (by decide +kernel))).trans (q_st_eq (K := fun L => mr157 S P 11 L st sh M c s))
theorem e157_11 : mr157 S P 11 L st sh M c s = (q_isI (q_gv L 1) ∧ mr157 S P 12 L (q_gv L 1 :: st) sh M c s) := (propext (mv_R_iff (i := .iload_n 1) (len := 1) (ax := []) (by decide +kernel))).trans (q_ldI_eq (K := fun st => mr157 S P 12 L st sh M c s))
theorem e157_12 : mr157 S P 12 L st sh M c s = (mr157 S P 15 L (.int (nI 5593) :: st) sh M c s) := propext (mv_R_iff (i := .sipush 5593) (len := 3) (ax := []) (by decide +kernel))
theorem e157_15 {y : Int32} {x : Int32} : mr157 S P 15 L (.int y :: .int x :: st) sh M c s = (if y ≤ x then mr157 S P 44 L st sh M c s else mr157 S P 18 L st sh M c s) := (propext (mv_R_iff (i := .if_icmp .ge 29) (len := 3) (ax := [44]) (by decide +kernel))).trans (q_br)
theorem e157_18 : mr157 S P 18 L st sh M c s = (q_isA (q_gv L 0) ∧ mr157 S P 19 L (q_gv L 0 :: st) sh M c s) := (propext (mv_R_iff (i := .aload_n 0) (len := 1) (ax := []) (by decide +kernel))).trans (q_ldA_eq (K := fun st => mr157 S P 19 L st sh M c s))
theorem e157_19 {a : Nat} : mr157 S P 19 L (.ref a :: st) sh M c s = (mv_kgf sh M a 5 0 (mr157 S P) 22 L st c s) := propext (mv_R_iff (i := .getfield 7) (len := 3) (ax := [1025, 0, 5, 0]) (by decide +kernel))
theorem e157_22 : mr157 S P 22 L st sh M c s = (mr157 S P 25 L (.int (nI 799) :: st) sh M c s) := propext (mv_R_iff (i := .sipush 799) (len := 3) (ax := []) (by decide +kernel))
theorem e157_25 : mr157 S P 25 L st sh M c s = (q_isI (q_gv L 1) ∧ mr157 S P 26 L (q_gv L 1 :: st) sh M c s) := (propext (mv_R_iff (i := .iload_n 1) (len := 1) (ax := []) (by decide +kernel))).trans (q_ldI_eq (K := fun st => mr157 S P 26 L st sh M c s))
theorem e157_26 {y : Int32} {x : Int32} : mr157 S P 26 L (.int y :: .int x :: st) sh M c s = (mr157 S P 27 L (.int (x + y) :: st) sh M c s) := propext (mv_R_iff (i := .iadd) (len := 1) (ax := []) (by decide +kernel))
theorem e157_27 : mr157 S P 27 L st sh M c s = (q_isA (q_gv L 0) ∧ mr157 S P 28 L (q_gv L 0 :: st) sh M c s) := (propext (mv_R_iff (i := .aload_n 0) (len := 1) (ax := []) (by decide +kernel))).trans (q_ldA_eq (K := fun st => mr157 S P 28 L st sh M c s))
theorem e157_28 {a : Nat} : mr157 S P 28 L (.ref a :: st) sh M c s = (mv_kgf sh M a 5 0 (mr157 S P) 31 L st c s) := propext (mv_R_iff (i := .getfield 7) (len := 3) (ax := [1025, 0, 5, 0]) (by decide +kernel))
theorem e157_31 : mr157 S P 31 L st sh M c s = (mr157 S P 34 L (.int (nI 1598) :: st) sh M c s) := propext (mv_R_iff (i := .sipush 1598) (len := 3) (ax := []) (by decide +kernel))
theorem e157_34 : mr157 S P 34 L st sh M c s = (q_isI (q_gv L 1) ∧ mr157 S P 35 L (q_gv L 1 :: st) sh M c s) := (propext (mv_R_iff (i := .iload_n 1) (len := 1) (ax := []) (by decide +kernel))).trans (q_ldI_eq (K := fun st => mr157 S P 35 L st sh M c s))
theorem e157_35 {y : Int32} {x : Int32} : mr157 S P 35 L (.int y :: .int x :: st) sh M c s = (mr157 S P 36 L (.int (x + y) :: st) sh M c s) := propext (mv_R_iff (i := .iadd) (len := 1) (ax := []) (by decide +kernel))
theorem e157_36 {i : Int32} {a : Nat} : mr157 S P 36 L (.int i :: .ref a :: st) sh M c s = (mv_kld sh M a i (mr157 S P) 37 L st c s) := propext (mv_R_iff (i := .iaload) (len := 1) (ax := []) (by decide +kernel))
theorem e157_37 {x : Int32} {i : Int32} {a : Nat} : mr157 S P 37 L (.int x :: .int i :: .ref a :: st) sh M c s = (mv_kst sh M a i x (mr157 S P) 38 L st c s) := propext (mv_R_iff (i := .iastore) (len := 1) (ax := []) (by decide +kernel))
theorem e157_38 : mr157 S P 38 L st sh M c s = ((q_isI (q_gv L 1) ∧ q_hs L 1) ∧ mr157 S P 41 (L.set 1 (some (q_inc (q_gv L 1) (nI 1)))) st sh M c s) := (propext (mv_R_iff (i := .iinc 1 1) (len := 3) (ax := []) (by decide +kernel))).trans (q_inc_eq (K := fun L => mr157 S P 41 L st sh M c s))
theorem e157_41 : mr157 S P 41 L st sh M c s = (mr157 S P 11 L st sh M c s) := propext (mv_R_iff (i := .goto (-30)) (len := 3) (ax := [11]) (by decide +kernel))
theorem e157_44 : mr157 S P 44 L st sh M c s = (q_isA (q_gv L 0) ∧ mr157 S P 45 L (q_gv L 0 :: st) sh M c s) := (propext (mv_R_iff (i := .aload_n 0) (len := 1) (ax := []) (by decide +kernel))).trans (q_ldA_eq (K := fun st => mr157 S P 45 L st sh M c s))
theorem e157_45 {x : Int32} : mr157 S P 45 L (.int x :: st) sh M c s = (mr157 S P 46 L (.int x :: .int x :: st) sh M c s) := propext (mv_R_iff (i := .dup) (len := 1) (ax := []) (by decide +kernel))
theorem e157_45r {x : Nat} : mr157 S P 45 L (.ref x :: st) sh M c s = (mr157 S P 46 L (.ref x :: .ref x :: st) sh M c s) := propext (mv_R_iff (i := .dup) (len := 1) (ax := []) (by decide +kernel))
theorem e157_46 {a : Nat} : mr157 S P 46 L (.ref a :: st) sh M c s = (mv_kgf sh M a 5 1 (mr157 S P) 49 L st c s) := propext (mv_R_iff (i := .getfield 163) (len := 3) (ax := [1026, 0, 5, 1]) (by decide +kernel))
theorem e157_49 : mr157 S P 49 L st sh M c s = (mr157 S P 50 L (.int (nI 1) :: st) sh M c s) := propext (mv_R_iff (i := .iconst 1) (len := 1) (ax := []) (by decide +kernel))
theorem e157_50 {y : Int32} {x : Int32} : mr157 S P 50 L (.int y :: .int x :: st) sh M c s = (mr157 S P 51 L (.int (x - y) :: st) sh M c s) := propext (mv_R_iff (i := .isub) (len := 1) (ax := []) (by decide +kernel))
theorem e157_51 {x : Int32} {a : Nat} : mr157 S P 51 L (.int x :: .ref a :: st) sh M c s = (True ∧ mv_kpf sh M a 5 1 x (mr157 S P) 54 L st c s) := propext (mv_R_iff (i := .putfield 163) (len := 3) (ax := [1026, 0, 5, 1, 0]) (by decide +kernel))
theorem e157_54 : mr157 S P 54 L st sh M c s = (q_isA (q_gv L 0) ∧ mr157 S P 55 L (q_gv L 0 :: st) sh M c s) := (propext (mv_R_iff (i := .aload_n 0) (len := 1) (ax := []) (by decide +kernel))).trans (q_ldA_eq (K := fun st => mr157 S P 55 L st sh M c s))
theorem e157_55 : mr157 S P 55 L st sh M c s = (mr157 S P 56 L (.int (nI 0) :: st) sh M c s) := propext (mv_R_iff (i := .iconst 0) (len := 1) (ax := []) (by decide +kernel))
theorem e157_56 : mr157 S P 56 L st sh M c s = (mr157 S P 59 L (.int (nI 799) :: st) sh M c s) := propext (mv_R_iff (i := .sipush 799) (len := 3) (ax := []) (by decide +kernel))
theorem e157_59 : mr157 S P 59 L st sh M c s = (mr157 S P 62 L (.int (nI 799) :: st) sh M c s) := propext (mv_R_iff (i := .sipush 799) (len := 3) (ax := []) (by decide +kernel))
theorem e157_62 : mr157 S P 62 L st sh M c s = (q_isA (q_gv L 0) ∧ mr157 S P 63 L (q_gv L 0 :: st) sh M c s) := (propext (mv_R_iff (i := .aload_n 0) (len := 1) (ax := []) (by decide +kernel))).trans (q_ldA_eq (K := fun st => mr157 S P 63 L st sh M c s))
theorem e157_63 {a : Nat} : mr157 S P 63 L (.ref a :: st) sh M c s = (mv_kgf sh M a 5 1 (mr157 S P) 66 L st c s) := propext (mv_R_iff (i := .getfield 163) (len := 3) (ax := [1026, 0, 5, 1]) (by decide +kernel))
theorem e157_66 {y : Int32} {x : Int32} : mr157 S P 66 L (.int y :: .int x :: st) sh M c s = (mr157 S P 67 L (.int (x * y) :: st) sh M c s) := propext (mv_R_iff (i := .imul) (len := 1) (ax := []) (by decide +kernel))
theorem e157_67 {y : Int32} {x : Int32} : mr157 S P 67 L (.int y :: .int x :: st) sh M c s = (mr157 S P 68 L (.int (x + y) :: st) sh M c s) := propext (mv_R_iff (i := .iadd) (len := 1) (ax := []) (by decide +kernel))
theorem e157_68 {v3 : Value} {v2 : Value} {v1 : Value} : mr157 S P 68 L (v3 :: v2 :: v1 :: st) sh M c s = (mv_ss st ≤ 8 ∧ c ≤ 0 ∧ s ≤ 0 ∧ mv_isO sh (some v1) 5 ∧ mv_kal S 156 [v1, v2, v3] sh M (mr157 S P) 71 L st c s) := (propext (mv_R_iff (i := .invokevirtual 205) (len := 3) (ax := [0, 156, 3, 5, 0, 0, 0, 1215, 1217, 85, 119, 1218]) (by decide +kernel))).trans (q_call0)
theorem e157_71 : mr157 S P 71 L st sh M c s = (q_isA (q_gv L 0) ∧ mr157 S P 72 L (q_gv L 0 :: st) sh M c s) := (propext (mv_R_iff (i := .aload_n 0) (len := 1) (ax := []) (by decide +kernel))).trans (q_ldA_eq (K := fun st => mr157 S P 72 L st sh M c s))
theorem e157_72 {x : Int32} : mr157 S P 72 L (.int x :: st) sh M c s = (mr157 S P 73 L (.int x :: .int x :: st) sh M c s) := propext (mv_R_iff (i := .dup) (len := 1) (ax := []) (by decide +kernel))
theorem e157_72r {x : Nat} : mr157 S P 72 L (.ref x :: st) sh M c s = (mr157 S P 73 L (.ref x :: .ref x :: st) sh M c s) := propext (mv_R_iff (i := .dup) (len := 1) (ax := []) (by decide +kernel))
theorem e157_73 {a : Nat} : mr157 S P 73 L (.ref a :: st) sh M c s = (mv_kgf sh M a 5 1 (mr157 S P) 76 L st c s) := propext (mv_R_iff (i := .getfield 163) (len := 3) (ax := [1026, 0, 5, 1]) (by decide +kernel))
theorem e157_76 : mr157 S P 76 L st sh M c s = (mr157 S P 77 L (.int (nI 1) :: st) sh M c s) := propext (mv_R_iff (i := .iconst 1) (len := 1) (ax := []) (by decide +kernel))
theorem e157_77 {y : Int32} {x : Int32} : mr157 S P 77 L (.int y :: .int x :: st) sh M c s = (mr157 S P 78 L (.int (x + y) :: st) sh M c s) := propext (mv_R_iff (i := .iadd) (len := 1) (ax := []) (by decide +kernel))
theorem e157_78 {x : Int32} {a : Nat} : mr157 S P 78 L (.int x :: .ref a :: st) sh M c s = (True ∧ mv_kpf sh M a 5 1 x (mr157 S P) 81 L st c s) := propext (mv_R_iff (i := .putfield 163) (len := 3) (ax := [1026, 0, 5, 1, 0]) (by decide +kernel))
theorem e157_81 : mr157 S P 81 L [] sh M c s = (P none sh M) := propext (mv_R_iff (i := .return_) (len := 1) (ax := []) (by decide +kernel))
end CD
